set_option maxHeartbeats 4000000 in
set_option maxRecDepth 100000 in
theorem z_come {p : Program} {l : Launch} {e : Env} {s : State} {m : MethodId} {args : Array Value} {below : List Frame} {meth : Method} {c : Code} {Q : State → Prop} {D : va_G} {cI cR cS cL : ClassId} {sb L : Nat} {xs : Nat → Int32} {q o : Nat → Nat} {a i B cells slots : Nat} {H : Heap} {locs : List Loc} {ls : Array Slot} {x v mv : Nat → Nat → Nat} {V : Nat → Nat → Nat → Nat} {g : Nat → Int64} (C : z_C p l s m args c D cI cR cS cL sb L xs) (h : z_S s D q o cI cR cS cL a g x v mv V B H locs) (hl : lv_has ls 9 (z_L i sb a o q)) (hi : i + 3 ≤ L) (hB : B < 2 ^ 27) (hc : cells + 1 ≤ 601024) (hsl : slots + 6 ≤ 7293034) (K : z_N p l e s m args below meth c Q D cI cR cS cL sb q o a i (B + 60) (cells + 1) (slots + 6)) : W p l e room_1 s m args below meth c H locs cells slots Q (F0 m 144 ls []) := by
  obtain ⟨hx, hb, hml, hown, hts, hK, hfl, hX, hG⟩ := C
  obtain ⟨hP, hD, hS, G⟩ := h
  obtain ⟨hR, hSI, hI, -, -⟩ := id G
  obtain ⟨⟨gx0, gx1, gx2⟩, ⟨gx3, gx4, gx5⟩, hx1, hm3, hVI⟩ := g_x G
  have hN := hG.1
  have hA : ∀ q : Nat, s.heap.size ≤ q → z_A s q := fun _ h => h
  have hB28 : B < 2 ^ 28 := by omega
  have hs6 : mv 0 0 ≤ 6 := by omega
  have h60 : mv 0 1 ≤ 60 := by omega
  obtain ⟨y1, hy1, ey1⟩ := o_of (xs (i + 1))
  by_cases hc1 : y1 < 3
  · skip
    by_cases hm1 : m_mode (mv 1) y1 = 0
    · skip
      obtain ⟨ha, hr, G1⟩ := g_come G hB28 hc1 hm1
      have ec : mc_come (mv 1) y1 = 0 := by unfold mc_come; rw [if_pos hc1, if_pos hm1]
      refine lv_aload_n hx hb dL_law_144 rfl (lv_at hl 2 rfl) ?_
      refine lv_aload_n hx hb dL_law_145 rfl (lv_at hl 1 rfl) ?_
      refine lv_iload hx hb dL_law_146 (lv_at hl 0 rfl) ?_
      refine o_const (k := 1) hx hb dL_law_148 (by decide) ?_
      refine o_iadd (k := i + 1) hx hb dL_law_149 rfl ?_
      refine z_ld (y := y1) hx hb hX hS (show i + 1 < L by omega) ey1 dL_law_150 ?_
      refine lv_aload_n hx hb dL_law_151 rfl (lv_at hl 4 rfl) ?_
      refine o_xiT (wM q cI mv) (vx_runSX (As := [.ref (o 0), .int (nI y1), .ref a]) (rest := []) ⟨hx, hb, hml, hown, hts⟩ (l_come_0 l D cI cR cS cL H.size o x v V B y1 a g (by first | assumption | omega) (by first | assumption | omega) (by first | assumption | omega) (by first | assumption | omega) (by first | assumption | omega) (by first | assumption | omega)) (vx_cwSW 3 hts gL_law_L_come rfl rfl rfl (by decide +kernel) ⟨Nat.le_of_ble_eq_true rfl, Nat.le_of_ble_eq_true rfl⟩) (o_pF (W := [ol cL a 1 g] ++ (wO o cI cR cS x v (wV o cI cR V))) hK (hG.kept hS) (o_PT (pre := (wM q cI mv)) (ws := [ol cL a 1 g] ++ (wO o cI cR cS x v (wV o cI cR V))) hP) (o_DT (pre := (wM q cI mv)) (ws := [ol cL a 1 g] ++ (wO o cI cR cS x v (wV o cI cR V))) hD) (va_free hD hS hA _ (o_getT (wM q cI mv) ([ol cL a 1 g] ++ (wO o cI cR cS x v (wV o cI cR V)))))) rfl rfl hl.1 rfl (lv_room (Nat.le_of_ble_eq_true rfl)) dL_law_152 ⟨show cells + 0 ≤ 601024 by omega, show slots + 0 ≤ 7293034 by omega⟩) hP hD hS hA (fun _ => rfl) (fun r1 u H locs e1 hP8 hD8 hS => ?_)
      obtain ⟨er1, hu⟩ := e1
      have er1 : r1 = nI 0 := er1
      subst er1
      have hu : u 0 = (nI (b_inl (v 3))).toInt64 := hu
      have hP := hP8
      have hD := hD8
      have hP : va_P D vwCl (z_W q o cI cR cS cL a u (va_up x 0 (c_sv (x 0))) (b_enter v y1) mv (c_put V ((x 0 3 + x 0 4) % 6) v)) H := hP
      have hD : va_D (z_A s) (z_W q o cI cR cS cL a u (va_up x 0 (c_sv (x 0))) (b_enter v y1) mv (c_put V ((x 0 3 + x 0 4) % 6) v)) := hD
      refine lv_istore (lv' := [(5, .int (nI 0)), (4, .int (nI i)), (0, .ref sb), (1, .ref (o 0)), (2, .ref (q 0)), (3, .ref a)]) hx hb dL_law_155 hl (by decide) rfl (fun ls hl => ?_)
      refine lv_aload_n hx hb dL_law_157 rfl (lv_at hl 4 rfl) ?_
      refine lv_aload_n hx hb dL_law_158 rfl (lv_at hl 2 rfl) ?_
      refine lv_iload hx hb dL_law_159 (lv_at hl 1 rfl) ?_
      refine o_const (k := 1) hx hb dL_law_161 (by decide) ?_
      refine o_iadd (k := i + 1) hx hb dL_law_162 rfl ?_
      refine z_ld (y := y1) hx hb hX hS (show i + 1 < L by omega) ey1 dL_law_163 ?_
      refine o_wi (va_runV (As := [.int (nI y1)]) (rest := []) ⟨hx, hb, hml, hown, hts⟩ (k_X5_come l D cI cR cS cL H.size q mv B y1 (by first | assumption | omega) (by first | assumption | omega) (by first | assumption | omega) (by first | assumption | omega)) (cwV 1 hts gL_law_X5_come rfl rfl rfl (by decide +kernel) ⟨Nat.le_of_ble_eq_true rfl, Nat.le_of_ble_eq_true rfl⟩) (o_v (o_pB hK hN (hP.sub (ws' := (wM q cI mv)) [0, 1, 2, 3, 4] rfl) (hD.sub (ws' := (wM q cI mv)) [0, 1, 2, 3, 4] (by decide +kernel) rfl)) (va_recv hK hP (ci := 5) (q0 := 0) rfl rfl)) rfl rfl hl.1 rfl (lv_room (Nat.le_of_ble_eq_true rfl)) dL_law_164 ⟨show cells + 0 + 0 ≤ 601024 by omega, show slots + 0 + 0 ≤ 7293034 by omega⟩) hP hD hS hA [0, 1, 2, 3, 4] (by decide +kernel) rfl (fun _ => rfl) (fun r2 _ H locs e2 hP hD hS => ?_)
      have hP : va_P D vwCl (z_W q o cI cR cS cL a u (va_up x 0 (c_sv (x 0))) (b_enter v y1) (m_act mv (mc_come (mv 1) y1) (m_comes (mv 1) y1)) (c_put V ((x 0 3 + x 0 4) % 6) v)) H := hP
      have hD : va_D (z_A s) (z_W q o cI cR cS cL a u (va_up x 0 (c_sv (x 0))) (b_enter v y1) (m_act mv (mc_come (mv 1) y1) (m_comes (mv 1) y1)) (c_put V ((x 0 3 + x 0 4) % 6) v)) := hD
      rw [ec] at hP hD
      have e2 : r2 = nI (if (mc_come (mv 1) y1) = 0 then m_comesr (mv 1) else 0) := e2
      have er : (if (mc_come (mv 1) y1) = 0 then m_comesr (mv 1) else 0) = (b_inl (v 3)) := by rw [ec, if_pos rfl]; exact hr.symm
      rw [er] at e2
      subst e2
      refine lv_istore (lv' := [(6, .int (nI (b_inl (v 3)))), (5, .int (nI 0)), (4, .int (nI i)), (0, .ref sb), (1, .ref (o 0)), (2, .ref (q 0)), (3, .ref a)]) hx hb dL_law_167 hl (by decide) rfl (fun ls hl => ?_)
      refine lv_aload_n hx hb dL_law_169 rfl (lv_at hl 5 rfl) ?_
      refine o_ri (va_runV (As := []) (rest := []) ⟨hx, hb, hml, hown, hts⟩ (k_X5_thrown l D cI cR cS cL q (m_act mv 0 (m_comes (mv 1) y1))) (cwV 0 hts gL_law_X5_thrown rfl rfl rfl (by decide +kernel) ⟨Nat.le_of_ble_eq_true rfl, Nat.le_of_ble_eq_true rfl⟩) (o_v (o_pR hK hN (hP.sub (ws' := (wM q cI (m_act mv 0 (m_comes (mv 1) y1)))) [0, 1, 2, 3, 4] rfl)) (va_recv hK hP (ci := 5) (q0 := 0) rfl rfl)) rfl rfl hl.1 rfl (lv_room (Nat.le_of_ble_eq_true rfl)) dL_law_170 ⟨show cells + 0 + 0 ≤ 601024 by omega, show slots + 0 + 0 ≤ 7293034 by omega⟩) (fun r3 e3 => ?_)
      have e3 : r3 = nI 0 := e3.trans (congrArg nI (rfl : _ = 0))
      subst e3
      refine lv_iload hx hb dL_law_173 (lv_at hl 1 rfl) ?_
      refine o_icmp_eq (tgt := 180) hx hb dL_law_175 (by decide) (Nat.le_of_ble_eq_true rfl) (Nat.le_of_ble_eq_true rfl) (fun _ => ?_) (fun z => absurd rfl z)
      refine lv_iload hx hb dL_law_180 (lv_at hl 1 rfl) ?_
      refine o_if_ne (a := 0) (tgt := 197) hx hb dL_law_182 (by decide) (Nat.le_of_ble_eq_true rfl) (fun z => absurd rfl z) (fun _ => ?_)
      refine lv_aload_n hx hb dL_law_185 rfl (lv_at hl 6 rfl) ?_
      refine o_const (k := 0) hx hb dL_law_186 (by decide) ?_
      refine va_lald hx hb hK hP 5 3 rfl rfl (vp_in_nI (by decide) (by decide)) dL_law_187 ?_
      refine o_tl (congrArg u (nI_clamp (show 0 < 2 ^ 31 by decide))) ?_
      refine lv_iload hx hb dL_law_188 (lv_at hl 0 rfl) ?_
      refine lv_i2l (v := (nI (b_inl (v 3))).toInt64) hx hb dL_law_190 rfl ?_
      refine W.lcmp hx hb dL_law_191 ?_
      refine o_ti (z_cmp hu) ?_
      refine o_if_eq (a := 0) (tgt := 197) hx hb dL_law_192 (by decide) (Nat.le_of_ble_eq_true rfl) (fun _ => ?_) (fun z => absurd rfl z)
      refine lv_goto (tgt := 1310) hx hb dL_law_197 (by decide) ?_
      refine W.widen (k := cells + 1) (n := slots + 6) (by omega) (by omega) ?_
      exact K _ _ _ _ _ _ _ _ ⟨hP, hD, hS, g_up G1 (by omega)⟩ (z_drop hl)
    · skip
      have hbad : ¬ v 3 y1 = 4294967295 := fun z => hm1 ((p_mode hR hI hc1).1.mp z)
      have ec : mc_come (mv 1) y1 = 2 := by unfold mc_come; rw [if_pos hc1, if_neg hm1]
      refine lv_aload_n hx hb dL_law_144 rfl (lv_at hl 2 rfl) ?_
      refine lv_aload_n hx hb dL_law_145 rfl (lv_at hl 1 rfl) ?_
      refine lv_iload hx hb dL_law_146 (lv_at hl 0 rfl) ?_
      refine o_const (k := 1) hx hb dL_law_148 (by decide) ?_
      refine o_iadd (k := i + 1) hx hb dL_law_149 rfl ?_
      refine z_ld (y := y1) hx hb hX hS (show i + 1 < L by omega) ey1 dL_law_150 ?_
      refine lv_aload_n hx hb dL_law_151 rfl (lv_at hl 4 rfl) ?_
      refine o_xiT (wM q cI mv) (vx_runSX (As := [.ref (o 0), .int (nI y1), .ref a]) (rest := []) ⟨hx, hb, hml, hown, hts⟩ (l_come_2 l D cI cR cS cL hfl H.size o x v (wV o cI cR V) B y1 a g (by first | assumption | omega) (by first | assumption | omega) (by first | assumption | omega) (by first | assumption | omega)) (vx_cwSW 3 hts gL_law_L_come rfl rfl rfl (by decide +kernel) ⟨Nat.le_of_ble_eq_true rfl, Nat.le_of_ble_eq_true rfl⟩) (o_pF (W := [ol cL a 1 g] ++ (wO o cI cR cS x v (wV o cI cR V))) hK (hG.kept hS) (o_PT (pre := (wM q cI mv)) (ws := [ol cL a 1 g] ++ (wO o cI cR cS x v (wV o cI cR V))) hP) (o_DT (pre := (wM q cI mv)) (ws := [ol cL a 1 g] ++ (wO o cI cR cS x v (wV o cI cR V))) hD) (va_free hD hS hA _ (o_getT (wM q cI mv) ([ol cL a 1 g] ++ (wO o cI cR cS x v (wV o cI cR V)))))) rfl rfl hl.1 rfl (lv_room (Nat.le_of_ble_eq_true rfl)) dL_law_152 ⟨show cells + 1 ≤ 601024 by omega, show slots + 6 ≤ 7293034 by omega⟩) hP hD hS hA (fun _ => rfl) (fun r1 u H locs e1 hP8 hD8 hS => ?_)
      obtain ⟨er1, hu⟩ := e1
      have er1 : r1 = nI 2 := er1
      subst er1
      subst hu
      have hP := hP8
      have hD := hD8
      have hP : va_P D vwCl (z_W q o cI cR cS cL a u x v mv V) H := hP
      have hD : va_D (z_A s) (z_W q o cI cR cS cL a u x v mv V) := hD
      refine lv_istore (lv' := [(5, .int (nI 2)), (4, .int (nI i)), (0, .ref sb), (1, .ref (o 0)), (2, .ref (q 0)), (3, .ref a)]) hx hb dL_law_155 hl (by decide) rfl (fun ls hl => ?_)
      refine lv_aload_n hx hb dL_law_157 rfl (lv_at hl 4 rfl) ?_
      refine lv_aload_n hx hb dL_law_158 rfl (lv_at hl 2 rfl) ?_
      refine lv_iload hx hb dL_law_159 (lv_at hl 1 rfl) ?_
      refine o_const (k := 1) hx hb dL_law_161 (by decide) ?_
      refine o_iadd (k := i + 1) hx hb dL_law_162 rfl ?_
      refine z_ld (y := y1) hx hb hX hS (show i + 1 < L by omega) ey1 dL_law_163 ?_
      refine o_wi (va_runV (As := [.int (nI y1)]) (rest := []) ⟨hx, hb, hml, hown, hts⟩ (k_X5_come l D cI cR cS cL H.size q mv B y1 (by first | assumption | omega) (by first | assumption | omega) (by first | assumption | omega) (by first | assumption | omega)) (cwV 1 hts gL_law_X5_come rfl rfl rfl (by decide +kernel) ⟨Nat.le_of_ble_eq_true rfl, Nat.le_of_ble_eq_true rfl⟩) (o_v (o_pB hK hN (hP.sub (ws' := (wM q cI mv)) [0, 1, 2, 3, 4] rfl) (hD.sub (ws' := (wM q cI mv)) [0, 1, 2, 3, 4] (by decide +kernel) rfl)) (va_recv hK hP (ci := 5) (q0 := 0) rfl rfl)) rfl rfl hl.1 rfl (lv_room (Nat.le_of_ble_eq_true rfl)) dL_law_164 ⟨show cells + 1 + 0 ≤ 601024 by omega, show slots + 6 + 0 ≤ 7293034 by omega⟩) hP hD hS hA [0, 1, 2, 3, 4] (by decide +kernel) rfl (fun _ => rfl) (fun r2 _ H locs e2 hP hD hS => ?_)
      have hP : va_P D vwCl (z_W q o cI cR cS cL a u x v (m_act mv (mc_come (mv 1) y1) (m_comes (mv 1) y1)) V) H := hP
      have hD : va_D (z_A s) (z_W q o cI cR cS cL a u x v (m_act mv (mc_come (mv 1) y1) (m_comes (mv 1) y1)) V) := hD
      rw [ec] at hP hD
      refine lv_istore (lv' := [(6, .int r2), (5, .int (nI 2)), (4, .int (nI i)), (0, .ref sb), (1, .ref (o 0)), (2, .ref (q 0)), (3, .ref a)]) hx hb dL_law_167 hl (by decide) rfl (fun ls hl => ?_)
      refine lv_aload_n hx hb dL_law_169 rfl (lv_at hl 5 rfl) ?_
      refine o_ri (va_runV (As := []) (rest := []) ⟨hx, hb, hml, hown, hts⟩ (k_X5_thrown l D cI cR cS cL q (m_act mv 2 (m_comes (mv 1) y1))) (cwV 0 hts gL_law_X5_thrown rfl rfl rfl (by decide +kernel) ⟨Nat.le_of_ble_eq_true rfl, Nat.le_of_ble_eq_true rfl⟩) (o_v (o_pR hK hN (hP.sub (ws' := (wM q cI (m_act mv 2 (m_comes (mv 1) y1)))) [0, 1, 2, 3, 4] rfl)) (va_recv hK hP (ci := 5) (q0 := 0) rfl rfl)) rfl rfl hl.1 rfl (lv_room (Nat.le_of_ble_eq_true rfl)) dL_law_170 ⟨show cells + 1 + 0 ≤ 601024 by omega, show slots + 6 + 0 ≤ 7293034 by omega⟩) (fun r3 e3 => ?_)
      have e3 : r3 = nI 2 := e3.trans (congrArg nI (rfl : _ = 2))
      subst e3
      refine lv_iload hx hb dL_law_173 (lv_at hl 1 rfl) ?_
      refine o_icmp_eq (tgt := 180) hx hb dL_law_175 (by decide) (Nat.le_of_ble_eq_true rfl) (Nat.le_of_ble_eq_true rfl) (fun _ => ?_) (fun z => absurd rfl z)
      refine lv_iload hx hb dL_law_180 (lv_at hl 1 rfl) ?_
      refine o_if_ne (a := 2) (tgt := 197) hx hb dL_law_182 (by decide) (Nat.le_of_ble_eq_true rfl) (fun _ => ?_) (fun z => absurd z (by decide))
      refine lv_goto (tgt := 1310) hx hb dL_law_197 (by decide) ?_
      refine W.widen (k := cells + 1) (n := slots + 6) (by omega) (by omega) ?_
      exact K _ _ _ _ _ _ _ _ ⟨hP, hD, hS, g_actf G (by omega) (by decide)⟩ (z_drop hl)
  · skip
    have ec : mc_come (mv 1) y1 = 1 := by unfold mc_come; rw [if_neg hc1]
    refine lv_aload_n hx hb dL_law_144 rfl (lv_at hl 2 rfl) ?_
    refine lv_aload_n hx hb dL_law_145 rfl (lv_at hl 1 rfl) ?_
    refine lv_iload hx hb dL_law_146 (lv_at hl 0 rfl) ?_
    refine o_const (k := 1) hx hb dL_law_148 (by decide) ?_
    refine o_iadd (k := i + 1) hx hb dL_law_149 rfl ?_
    refine z_ld (y := y1) hx hb hX hS (show i + 1 < L by omega) ey1 dL_law_150 ?_
    refine lv_aload_n hx hb dL_law_151 rfl (lv_at hl 4 rfl) ?_
    refine o_xiT (wM q cI mv) (vx_runSX (As := [.ref (o 0), .int (nI y1), .ref a]) (rest := []) ⟨hx, hb, hml, hown, hts⟩ (l_come_1 l D cI cR cS cL hfl H.size o x v (wV o cI cR V) B y1 a g (by first | assumption | omega) (by first | assumption | omega)) (vx_cwSW 3 hts gL_law_L_come rfl rfl rfl (by decide +kernel) ⟨Nat.le_of_ble_eq_true rfl, Nat.le_of_ble_eq_true rfl⟩) (o_pF (W := [ol cL a 1 g] ++ (wO o cI cR cS x v (wV o cI cR V))) hK (hG.kept hS) (o_PT (pre := (wM q cI mv)) (ws := [ol cL a 1 g] ++ (wO o cI cR cS x v (wV o cI cR V))) hP) (o_DT (pre := (wM q cI mv)) (ws := [ol cL a 1 g] ++ (wO o cI cR cS x v (wV o cI cR V))) hD) (va_free hD hS hA _ (o_getT (wM q cI mv) ([ol cL a 1 g] ++ (wO o cI cR cS x v (wV o cI cR V)))))) rfl rfl hl.1 rfl (lv_room (Nat.le_of_ble_eq_true rfl)) dL_law_152 ⟨show cells + 1 ≤ 601024 by omega, show slots + 6 ≤ 7293034 by omega⟩) hP hD hS hA (fun _ => rfl) (fun r1 u H locs e1 hP8 hD8 hS => ?_)
    obtain ⟨er1, hu⟩ := e1
    have er1 : r1 = nI 1 := er1
    subst er1
    subst hu
    have hP := hP8
    have hD := hD8
    have hP : va_P D vwCl (z_W q o cI cR cS cL a u x v mv V) H := hP
    have hD : va_D (z_A s) (z_W q o cI cR cS cL a u x v mv V) := hD
    refine lv_istore (lv' := [(5, .int (nI 1)), (4, .int (nI i)), (0, .ref sb), (1, .ref (o 0)), (2, .ref (q 0)), (3, .ref a)]) hx hb dL_law_155 hl (by decide) rfl (fun ls hl => ?_)
    refine lv_aload_n hx hb dL_law_157 rfl (lv_at hl 4 rfl) ?_
    refine lv_aload_n hx hb dL_law_158 rfl (lv_at hl 2 rfl) ?_
    refine lv_iload hx hb dL_law_159 (lv_at hl 1 rfl) ?_
    refine o_const (k := 1) hx hb dL_law_161 (by decide) ?_
    refine o_iadd (k := i + 1) hx hb dL_law_162 rfl ?_
    refine z_ld (y := y1) hx hb hX hS (show i + 1 < L by omega) ey1 dL_law_163 ?_
    refine o_wi (va_runV (As := [.int (nI y1)]) (rest := []) ⟨hx, hb, hml, hown, hts⟩ (k_X5_come l D cI cR cS cL H.size q mv B y1 (by first | assumption | omega) (by first | assumption | omega) (by first | assumption | omega) (by first | assumption | omega)) (cwV 1 hts gL_law_X5_come rfl rfl rfl (by decide +kernel) ⟨Nat.le_of_ble_eq_true rfl, Nat.le_of_ble_eq_true rfl⟩) (o_v (o_pB hK hN (hP.sub (ws' := (wM q cI mv)) [0, 1, 2, 3, 4] rfl) (hD.sub (ws' := (wM q cI mv)) [0, 1, 2, 3, 4] (by decide +kernel) rfl)) (va_recv hK hP (ci := 5) (q0 := 0) rfl rfl)) rfl rfl hl.1 rfl (lv_room (Nat.le_of_ble_eq_true rfl)) dL_law_164 ⟨show cells + 1 + 0 ≤ 601024 by omega, show slots + 6 + 0 ≤ 7293034 by omega⟩) hP hD hS hA [0, 1, 2, 3, 4] (by decide +kernel) rfl (fun _ => rfl) (fun r2 _ H locs e2 hP hD hS => ?_)
    have hP : va_P D vwCl (z_W q o cI cR cS cL a u x v (m_act mv (mc_come (mv 1) y1) (m_comes (mv 1) y1)) V) H := hP
    have hD : va_D (z_A s) (z_W q o cI cR cS cL a u x v (m_act mv (mc_come (mv 1) y1) (m_comes (mv 1) y1)) V) := hD
    rw [ec] at hP hD
    refine lv_istore (lv' := [(6, .int r2), (5, .int (nI 1)), (4, .int (nI i)), (0, .ref sb), (1, .ref (o 0)), (2, .ref (q 0)), (3, .ref a)]) hx hb dL_law_167 hl (by decide) rfl (fun ls hl => ?_)
    refine lv_aload_n hx hb dL_law_169 rfl (lv_at hl 5 rfl) ?_
    refine o_ri (va_runV (As := []) (rest := []) ⟨hx, hb, hml, hown, hts⟩ (k_X5_thrown l D cI cR cS cL q (m_act mv 1 (m_comes (mv 1) y1))) (cwV 0 hts gL_law_X5_thrown rfl rfl rfl (by decide +kernel) ⟨Nat.le_of_ble_eq_true rfl, Nat.le_of_ble_eq_true rfl⟩) (o_v (o_pR hK hN (hP.sub (ws' := (wM q cI (m_act mv 1 (m_comes (mv 1) y1)))) [0, 1, 2, 3, 4] rfl)) (va_recv hK hP (ci := 5) (q0 := 0) rfl rfl)) rfl rfl hl.1 rfl (lv_room (Nat.le_of_ble_eq_true rfl)) dL_law_170 ⟨show cells + 1 + 0 ≤ 601024 by omega, show slots + 6 + 0 ≤ 7293034 by omega⟩) (fun r3 e3 => ?_)
    have e3 : r3 = nI 1 := e3.trans (congrArg nI (rfl : _ = 1))
    subst e3
    refine lv_iload hx hb dL_law_173 (lv_at hl 1 rfl) ?_
    refine o_icmp_eq (tgt := 180) hx hb dL_law_175 (by decide) (Nat.le_of_ble_eq_true rfl) (Nat.le_of_ble_eq_true rfl) (fun _ => ?_) (fun z => absurd rfl z)
    refine lv_iload hx hb dL_law_180 (lv_at hl 1 rfl) ?_
    refine o_if_ne (a := 1) (tgt := 197) hx hb dL_law_182 (by decide) (Nat.le_of_ble_eq_true rfl) (fun _ => ?_) (fun z => absurd z (by decide))
    refine lv_goto (tgt := 1310) hx hb dL_law_197 (by decide) ?_
    refine W.widen (k := cells + 1) (n := slots + 6) (by omega) (by omega) ?_
    exact K _ _ _ _ _ _ _ _ ⟨hP, hD, hS, g_actf G (by omega) (by decide)⟩ (z_drop hl)
set_option maxHeartbeats 4000000 in
set_option maxRecDepth 100000 in
theorem z_chalk {p : Program} {l : Launch} {e : Env} {s : State} {m : MethodId} {args : Array Value} {below : List Frame} {meth : Method} {c : Code} {Q : State → Prop} {D : va_G} {cI cR cS cL : ClassId} {sb L : Nat} {xs : Nat → Int32} {q o : Nat → Nat} {a i B cells slots : Nat} {H : Heap} {locs : List Loc} {ls : Array Slot} {x v mv : Nat → Nat → Nat} {V : Nat → Nat → Nat → Nat} {g : Nat → Int64} (C : z_C p l s m args c D cI cR cS cL sb L xs) (h : z_S s D q o cI cR cS cL a g x v mv V B H locs) (hl : lv_has ls 9 (z_L i sb a o q)) (hi : i + 3 ≤ L) (hB : B < 2 ^ 27) (hc : cells + 1 ≤ 601024) (hsl : slots + 6 ≤ 7293034) (K : z_N p l e s m args below meth c Q D cI cR cS cL sb q o a i (B + 60) (cells + 1) (slots + 6)) : W p l e room_1 s m args below meth c H locs cells slots Q (F0 m 200 ls []) := by
  obtain ⟨hx, hb, hml, hown, hts, hK, hfl, hX, hG⟩ := C
  obtain ⟨hP, hD, hS, G⟩ := h
  obtain ⟨hR, hSI, hI, -, -⟩ := id G
  obtain ⟨⟨gx0, gx1, gx2⟩, ⟨gx3, gx4, gx5⟩, hx1, hm3, hVI⟩ := g_x G
  have hN := hG.1
  have hA : ∀ q : Nat, s.heap.size ≤ q → z_A s q := fun _ h => h
  have hB28 : B < 2 ^ 28 := by omega
  have hs6 : mv 0 0 ≤ 6 := by omega
  have h60 : mv 0 1 ≤ 60 := by omega
  obtain ⟨y1, hy1, ey1⟩ := o_of (xs (i + 1))
  obtain ⟨y2, hy2, ey2⟩ := o_of (xs (i + 2))
  by_cases hc1 : y1 < 5
  · skip
    by_cases hc2 : y2 < 100
    · skip
      by_cases hm1 : mv 1 3 = 4294967295
      · skip
        have hbad : ¬ v 0 0 % 2 = 1 := fun z => (p_odd hR hI).mp z hm1
        have ec : mc_chalk (mv 1) y1 y2 = 3 := by unfold mc_chalk; rw [if_pos hc1, if_pos hc2, if_pos hm1]
        refine lv_aload_n hx hb dL_law_200 rfl (lv_at hl 2 rfl) ?_
        refine lv_aload_n hx hb dL_law_201 rfl (lv_at hl 1 rfl) ?_
        refine lv_iload hx hb dL_law_202 (lv_at hl 0 rfl) ?_
        refine o_const (k := 1) hx hb dL_law_204 (by decide) ?_
        refine o_iadd (k := i + 1) hx hb dL_law_205 rfl ?_
        refine z_ld (y := y1) hx hb hX hS (show i + 1 < L by omega) ey1 dL_law_206 ?_
        refine lv_aload_n hx hb dL_law_207 rfl (lv_at hl 1 rfl) ?_
        refine lv_iload hx hb dL_law_208 (lv_at hl 0 rfl) ?_
        refine o_const (k := 2) hx hb dL_law_210 (by decide) ?_
        refine o_iadd (k := i + 2) hx hb dL_law_211 rfl ?_
        refine z_ld (y := y2) hx hb hX hS (show i + 2 < L by omega) ey2 dL_law_212 ?_
        refine lv_aload_n hx hb dL_law_213 rfl (lv_at hl 4 rfl) ?_
        refine o_xiT (wM q cI mv) (vx_runSX (As := [.ref (o 0), .int (nI y1), .int (nI y2), .ref a]) (rest := []) ⟨hx, hb, hml, hown, hts⟩ (l_chalk_3 l D cI cR cS cL hfl H.size o x v (wV o cI cR V) B y1 y2 a g (by first | assumption | omega) (by first | assumption | omega) (by first | assumption | omega) (by first | assumption | omega) (by first | assumption | omega)) (vx_cwSW 4 hts gL_law_L_chalk rfl rfl rfl (by decide +kernel) ⟨Nat.le_of_ble_eq_true rfl, Nat.le_of_ble_eq_true rfl⟩) (o_pF (W := [ol cL a 1 g] ++ (wO o cI cR cS x v (wV o cI cR V))) hK (hG.kept hS) (o_PT (pre := (wM q cI mv)) (ws := [ol cL a 1 g] ++ (wO o cI cR cS x v (wV o cI cR V))) hP) (o_DT (pre := (wM q cI mv)) (ws := [ol cL a 1 g] ++ (wO o cI cR cS x v (wV o cI cR V))) hD) (va_free hD hS hA _ (o_getT (wM q cI mv) ([ol cL a 1 g] ++ (wO o cI cR cS x v (wV o cI cR V)))))) rfl rfl hl.1 rfl (lv_room (Nat.le_of_ble_eq_true rfl)) dL_law_214 ⟨show cells + 1 ≤ 601024 by omega, show slots + 6 ≤ 7293034 by omega⟩) hP hD hS hA (fun _ => rfl) (fun r1 u H locs e1 hP8 hD8 hS => ?_)
        obtain ⟨er1, hu⟩ := e1
        have er1 : r1 = nI 3 := er1
        subst er1
        subst hu
        have hP := hP8
        have hD := hD8
        have hP : va_P D vwCl (z_W q o cI cR cS cL a u x v mv V) H := hP
        have hD : va_D (z_A s) (z_W q o cI cR cS cL a u x v mv V) := hD
        refine lv_istore (lv' := [(5, .int (nI 3)), (4, .int (nI i)), (0, .ref sb), (1, .ref (o 0)), (2, .ref (q 0)), (3, .ref a)]) hx hb dL_law_217 hl (by decide) rfl (fun ls hl => ?_)
        refine lv_aload_n hx hb dL_law_219 rfl (lv_at hl 4 rfl) ?_
        refine lv_aload_n hx hb dL_law_220 rfl (lv_at hl 2 rfl) ?_
        refine lv_iload hx hb dL_law_221 (lv_at hl 1 rfl) ?_
        refine o_const (k := 1) hx hb dL_law_223 (by decide) ?_
        refine o_iadd (k := i + 1) hx hb dL_law_224 rfl ?_
        refine z_ld (y := y1) hx hb hX hS (show i + 1 < L by omega) ey1 dL_law_225 ?_
        refine lv_aload_n hx hb dL_law_226 rfl (lv_at hl 2 rfl) ?_
        refine lv_iload hx hb dL_law_227 (lv_at hl 1 rfl) ?_
        refine o_const (k := 2) hx hb dL_law_229 (by decide) ?_
        refine o_iadd (k := i + 2) hx hb dL_law_230 rfl ?_
        refine z_ld (y := y2) hx hb hX hS (show i + 2 < L by omega) ey2 dL_law_231 ?_
        refine o_wi (va_runV (As := [.int (nI y1), .int (nI y2)]) (rest := []) ⟨hx, hb, hml, hown, hts⟩ (k_X5_chalk l D cI cR cS cL H.size q mv B y1 y2 (by first | assumption | omega) (by first | assumption | omega) (by first | assumption | omega) (by first | assumption | omega) (by first | assumption | omega)) (cwV 2 hts gL_law_X5_chalk rfl rfl rfl (by decide +kernel) ⟨Nat.le_of_ble_eq_true rfl, Nat.le_of_ble_eq_true rfl⟩) (o_v (o_pB hK hN (hP.sub (ws' := (wM q cI mv)) [0, 1, 2, 3, 4] rfl) (hD.sub (ws' := (wM q cI mv)) [0, 1, 2, 3, 4] (by decide +kernel) rfl)) (va_recv hK hP (ci := 5) (q0 := 0) rfl rfl)) rfl rfl hl.1 rfl (lv_room (Nat.le_of_ble_eq_true rfl)) dL_law_232 ⟨show cells + 1 + 0 ≤ 601024 by omega, show slots + 6 + 0 ≤ 7293034 by omega⟩) hP hD hS hA [0, 1, 2, 3, 4] (by decide +kernel) rfl (fun _ => rfl) (fun r2 _ H locs e2 hP hD hS => ?_)
        have hP : va_P D vwCl (z_W q o cI cR cS cL a u x v (m_act mv (mc_chalk (mv 1) y1 y2) (va_up (mv 1) (7 + y1) y2)) V) H := hP
        have hD : va_D (z_A s) (z_W q o cI cR cS cL a u x v (m_act mv (mc_chalk (mv 1) y1 y2) (va_up (mv 1) (7 + y1) y2)) V) := hD
        rw [ec] at hP hD
        refine lv_istore (lv' := [(6, .int r2), (5, .int (nI 3)), (4, .int (nI i)), (0, .ref sb), (1, .ref (o 0)), (2, .ref (q 0)), (3, .ref a)]) hx hb dL_law_235 hl (by decide) rfl (fun ls hl => ?_)
        refine lv_aload_n hx hb dL_law_237 rfl (lv_at hl 5 rfl) ?_
        refine o_ri (va_runV (As := []) (rest := []) ⟨hx, hb, hml, hown, hts⟩ (k_X5_thrown l D cI cR cS cL q (m_act mv 3 (va_up (mv 1) (7 + y1) y2))) (cwV 0 hts gL_law_X5_thrown rfl rfl rfl (by decide +kernel) ⟨Nat.le_of_ble_eq_true rfl, Nat.le_of_ble_eq_true rfl⟩) (o_v (o_pR hK hN (hP.sub (ws' := (wM q cI (m_act mv 3 (va_up (mv 1) (7 + y1) y2)))) [0, 1, 2, 3, 4] rfl)) (va_recv hK hP (ci := 5) (q0 := 0) rfl rfl)) rfl rfl hl.1 rfl (lv_room (Nat.le_of_ble_eq_true rfl)) dL_law_238 ⟨show cells + 1 + 0 ≤ 601024 by omega, show slots + 6 + 0 ≤ 7293034 by omega⟩) (fun r3 e3 => ?_)
        have e3 : r3 = nI 3 := e3.trans (congrArg nI (rfl : _ = 3))
        subst e3
        refine lv_iload hx hb dL_law_241 (lv_at hl 1 rfl) ?_
        refine o_icmp_eq (tgt := 248) hx hb dL_law_243 (by decide) (Nat.le_of_ble_eq_true rfl) (Nat.le_of_ble_eq_true rfl) (fun _ => ?_) (fun z => absurd rfl z)
        refine lv_iload hx hb dL_law_248 (lv_at hl 1 rfl) ?_
        refine o_if_ne (a := 3) (tgt := 265) hx hb dL_law_250 (by decide) (Nat.le_of_ble_eq_true rfl) (fun _ => ?_) (fun z => absurd z (by decide))
        refine lv_goto (tgt := 1310) hx hb dL_law_265 (by decide) ?_
        refine W.widen (k := cells + 1) (n := slots + 6) (by omega) (by omega) ?_
        exact K _ _ _ _ _ _ _ _ ⟨hP, hD, hS, g_actf G (by omega) (by decide)⟩ (z_drop hl)
      · skip
        obtain ⟨ha, hr, G1⟩ := g_chalk G hc1 hc2 hm1
        have ec : mc_chalk (mv 1) y1 y2 = 0 := by unfold mc_chalk; rw [if_pos hc1, if_pos hc2, if_neg hm1]
        refine lv_aload_n hx hb dL_law_200 rfl (lv_at hl 2 rfl) ?_
        refine lv_aload_n hx hb dL_law_201 rfl (lv_at hl 1 rfl) ?_
        refine lv_iload hx hb dL_law_202 (lv_at hl 0 rfl) ?_
        refine o_const (k := 1) hx hb dL_law_204 (by decide) ?_
        refine o_iadd (k := i + 1) hx hb dL_law_205 rfl ?_
        refine z_ld (y := y1) hx hb hX hS (show i + 1 < L by omega) ey1 dL_law_206 ?_
        refine lv_aload_n hx hb dL_law_207 rfl (lv_at hl 1 rfl) ?_
        refine lv_iload hx hb dL_law_208 (lv_at hl 0 rfl) ?_
        refine o_const (k := 2) hx hb dL_law_210 (by decide) ?_
        refine o_iadd (k := i + 2) hx hb dL_law_211 rfl ?_
        refine z_ld (y := y2) hx hb hX hS (show i + 2 < L by omega) ey2 dL_law_212 ?_
        refine lv_aload_n hx hb dL_law_213 rfl (lv_at hl 4 rfl) ?_
        refine o_xiT (wM q cI mv) (vx_runSX (As := [.ref (o 0), .int (nI y1), .int (nI y2), .ref a]) (rest := []) ⟨hx, hb, hml, hown, hts⟩ (l_chalk_0 l D cI cR cS cL H.size o x v V B y1 y2 a g (by first | assumption | omega) (by first | assumption | omega) (by first | assumption | omega) (by first | assumption | omega) (by first | assumption | omega) (by first | assumption | omega) (by first | assumption | omega)) (vx_cwSW 4 hts gL_law_L_chalk rfl rfl rfl (by decide +kernel) ⟨Nat.le_of_ble_eq_true rfl, Nat.le_of_ble_eq_true rfl⟩) (o_pF (W := [ol cL a 1 g] ++ (wO o cI cR cS x v (wV o cI cR V))) hK (hG.kept hS) (o_PT (pre := (wM q cI mv)) (ws := [ol cL a 1 g] ++ (wO o cI cR cS x v (wV o cI cR V))) hP) (o_DT (pre := (wM q cI mv)) (ws := [ol cL a 1 g] ++ (wO o cI cR cS x v (wV o cI cR V))) hD) (va_free hD hS hA _ (o_getT (wM q cI mv) ([ol cL a 1 g] ++ (wO o cI cR cS x v (wV o cI cR V)))))) rfl rfl hl.1 rfl (lv_room (Nat.le_of_ble_eq_true rfl)) dL_law_214 ⟨show cells + 0 ≤ 601024 by omega, show slots + 0 ≤ 7293034 by omega⟩) hP hD hS hA (fun _ => rfl) (fun r1 u H locs e1 hP8 hD8 hS => ?_)
        obtain ⟨er1, hu⟩ := e1
        have er1 : r1 = nI 0 := er1
        subst er1
        have hu : u 0 = (nI (v 1 y1)).toInt64 := hu
        have hP := hP8
        have hD := hD8
        have hP : va_P D vwCl (z_W q o cI cR cS cL a u (va_up x 0 (c_sv (x 0))) (b_write v y1 y2) mv (c_put V ((x 0 3 + x 0 4) % 6) v)) H := hP
        have hD : va_D (z_A s) (z_W q o cI cR cS cL a u (va_up x 0 (c_sv (x 0))) (b_write v y1 y2) mv (c_put V ((x 0 3 + x 0 4) % 6) v)) := hD
        refine lv_istore (lv' := [(5, .int (nI 0)), (4, .int (nI i)), (0, .ref sb), (1, .ref (o 0)), (2, .ref (q 0)), (3, .ref a)]) hx hb dL_law_217 hl (by decide) rfl (fun ls hl => ?_)
        refine lv_aload_n hx hb dL_law_219 rfl (lv_at hl 4 rfl) ?_
        refine lv_aload_n hx hb dL_law_220 rfl (lv_at hl 2 rfl) ?_
        refine lv_iload hx hb dL_law_221 (lv_at hl 1 rfl) ?_
        refine o_const (k := 1) hx hb dL_law_223 (by decide) ?_
        refine o_iadd (k := i + 1) hx hb dL_law_224 rfl ?_
        refine z_ld (y := y1) hx hb hX hS (show i + 1 < L by omega) ey1 dL_law_225 ?_
        refine lv_aload_n hx hb dL_law_226 rfl (lv_at hl 2 rfl) ?_
        refine lv_iload hx hb dL_law_227 (lv_at hl 1 rfl) ?_
        refine o_const (k := 2) hx hb dL_law_229 (by decide) ?_
        refine o_iadd (k := i + 2) hx hb dL_law_230 rfl ?_
        refine z_ld (y := y2) hx hb hX hS (show i + 2 < L by omega) ey2 dL_law_231 ?_
        refine o_wi (va_runV (As := [.int (nI y1), .int (nI y2)]) (rest := []) ⟨hx, hb, hml, hown, hts⟩ (k_X5_chalk l D cI cR cS cL H.size q mv B y1 y2 (by first | assumption | omega) (by first | assumption | omega) (by first | assumption | omega) (by first | assumption | omega) (by first | assumption | omega)) (cwV 2 hts gL_law_X5_chalk rfl rfl rfl (by decide +kernel) ⟨Nat.le_of_ble_eq_true rfl, Nat.le_of_ble_eq_true rfl⟩) (o_v (o_pB hK hN (hP.sub (ws' := (wM q cI mv)) [0, 1, 2, 3, 4] rfl) (hD.sub (ws' := (wM q cI mv)) [0, 1, 2, 3, 4] (by decide +kernel) rfl)) (va_recv hK hP (ci := 5) (q0 := 0) rfl rfl)) rfl rfl hl.1 rfl (lv_room (Nat.le_of_ble_eq_true rfl)) dL_law_232 ⟨show cells + 0 + 0 ≤ 601024 by omega, show slots + 0 + 0 ≤ 7293034 by omega⟩) hP hD hS hA [0, 1, 2, 3, 4] (by decide +kernel) rfl (fun _ => rfl) (fun r2 _ H locs e2 hP hD hS => ?_)
        have hP : va_P D vwCl (z_W q o cI cR cS cL a u (va_up x 0 (c_sv (x 0))) (b_write v y1 y2) (m_act mv (mc_chalk (mv 1) y1 y2) (va_up (mv 1) (7 + y1) y2)) (c_put V ((x 0 3 + x 0 4) % 6) v)) H := hP
        have hD : va_D (z_A s) (z_W q o cI cR cS cL a u (va_up x 0 (c_sv (x 0))) (b_write v y1 y2) (m_act mv (mc_chalk (mv 1) y1 y2) (va_up (mv 1) (7 + y1) y2)) (c_put V ((x 0 3 + x 0 4) % 6) v)) := hD
        rw [ec] at hP hD
        have e2 : r2 = nI (if (mc_chalk (mv 1) y1 y2) = 0 then mv 1 (7 + y1) else 0) := e2
        have er : (if (mc_chalk (mv 1) y1 y2) = 0 then mv 1 (7 + y1) else 0) = (v 1 y1) := by rw [ec, if_pos rfl]; exact hr.symm
        rw [er] at e2
        subst e2
        refine lv_istore (lv' := [(6, .int (nI (v 1 y1))), (5, .int (nI 0)), (4, .int (nI i)), (0, .ref sb), (1, .ref (o 0)), (2, .ref (q 0)), (3, .ref a)]) hx hb dL_law_235 hl (by decide) rfl (fun ls hl => ?_)
        refine lv_aload_n hx hb dL_law_237 rfl (lv_at hl 5 rfl) ?_
        refine o_ri (va_runV (As := []) (rest := []) ⟨hx, hb, hml, hown, hts⟩ (k_X5_thrown l D cI cR cS cL q (m_act mv 0 (va_up (mv 1) (7 + y1) y2))) (cwV 0 hts gL_law_X5_thrown rfl rfl rfl (by decide +kernel) ⟨Nat.le_of_ble_eq_true rfl, Nat.le_of_ble_eq_true rfl⟩) (o_v (o_pR hK hN (hP.sub (ws' := (wM q cI (m_act mv 0 (va_up (mv 1) (7 + y1) y2)))) [0, 1, 2, 3, 4] rfl)) (va_recv hK hP (ci := 5) (q0 := 0) rfl rfl)) rfl rfl hl.1 rfl (lv_room (Nat.le_of_ble_eq_true rfl)) dL_law_238 ⟨show cells + 0 + 0 ≤ 601024 by omega, show slots + 0 + 0 ≤ 7293034 by omega⟩) (fun r3 e3 => ?_)
        have e3 : r3 = nI 0 := e3.trans (congrArg nI (rfl : _ = 0))
        subst e3
        refine lv_iload hx hb dL_law_241 (lv_at hl 1 rfl) ?_
        refine o_icmp_eq (tgt := 248) hx hb dL_law_243 (by decide) (Nat.le_of_ble_eq_true rfl) (Nat.le_of_ble_eq_true rfl) (fun _ => ?_) (fun z => absurd rfl z)
        refine lv_iload hx hb dL_law_248 (lv_at hl 1 rfl) ?_
        refine o_if_ne (a := 0) (tgt := 265) hx hb dL_law_250 (by decide) (Nat.le_of_ble_eq_true rfl) (fun z => absurd rfl z) (fun _ => ?_)
        refine lv_aload_n hx hb dL_law_253 rfl (lv_at hl 6 rfl) ?_
        refine o_const (k := 0) hx hb dL_law_254 (by decide) ?_
        refine va_lald hx hb hK hP 5 3 rfl rfl (vp_in_nI (by decide) (by decide)) dL_law_255 ?_
        refine o_tl (congrArg u (nI_clamp (show 0 < 2 ^ 31 by decide))) ?_
        refine lv_iload hx hb dL_law_256 (lv_at hl 0 rfl) ?_
        refine lv_i2l (v := (nI (v 1 y1)).toInt64) hx hb dL_law_258 rfl ?_
        refine W.lcmp hx hb dL_law_259 ?_
        refine o_ti (z_cmp hu) ?_
        refine o_if_eq (a := 0) (tgt := 265) hx hb dL_law_260 (by decide) (Nat.le_of_ble_eq_true rfl) (fun _ => ?_) (fun z => absurd rfl z)
        refine lv_goto (tgt := 1310) hx hb dL_law_265 (by decide) ?_
        refine W.widen (k := cells + 1) (n := slots + 6) (by omega) (by omega) ?_
        exact K _ _ _ _ _ _ _ _ ⟨hP, hD, hS, g_up G1 (by omega)⟩ (z_drop hl)
    · skip
      have ec : mc_chalk (mv 1) y1 y2 = 2 := by unfold mc_chalk; rw [if_pos hc1, if_neg hc2]
      refine lv_aload_n hx hb dL_law_200 rfl (lv_at hl 2 rfl) ?_
      refine lv_aload_n hx hb dL_law_201 rfl (lv_at hl 1 rfl) ?_
      refine lv_iload hx hb dL_law_202 (lv_at hl 0 rfl) ?_
      refine o_const (k := 1) hx hb dL_law_204 (by decide) ?_
      refine o_iadd (k := i + 1) hx hb dL_law_205 rfl ?_
      refine z_ld (y := y1) hx hb hX hS (show i + 1 < L by omega) ey1 dL_law_206 ?_
      refine lv_aload_n hx hb dL_law_207 rfl (lv_at hl 1 rfl) ?_
      refine lv_iload hx hb dL_law_208 (lv_at hl 0 rfl) ?_
      refine o_const (k := 2) hx hb dL_law_210 (by decide) ?_
      refine o_iadd (k := i + 2) hx hb dL_law_211 rfl ?_
      refine z_ld (y := y2) hx hb hX hS (show i + 2 < L by omega) ey2 dL_law_212 ?_
      refine lv_aload_n hx hb dL_law_213 rfl (lv_at hl 4 rfl) ?_
      refine o_xiT (wM q cI mv) (vx_runSX (As := [.ref (o 0), .int (nI y1), .int (nI y2), .ref a]) (rest := []) ⟨hx, hb, hml, hown, hts⟩ (l_chalk_2 l D cI cR cS cL hfl H.size o x v (wV o cI cR V) B y1 y2 a g (by first | assumption | omega) (by first | assumption | omega) (by first | assumption | omega)) (vx_cwSW 4 hts gL_law_L_chalk rfl rfl rfl (by decide +kernel) ⟨Nat.le_of_ble_eq_true rfl, Nat.le_of_ble_eq_true rfl⟩) (o_pF (W := [ol cL a 1 g] ++ (wO o cI cR cS x v (wV o cI cR V))) hK (hG.kept hS) (o_PT (pre := (wM q cI mv)) (ws := [ol cL a 1 g] ++ (wO o cI cR cS x v (wV o cI cR V))) hP) (o_DT (pre := (wM q cI mv)) (ws := [ol cL a 1 g] ++ (wO o cI cR cS x v (wV o cI cR V))) hD) (va_free hD hS hA _ (o_getT (wM q cI mv) ([ol cL a 1 g] ++ (wO o cI cR cS x v (wV o cI cR V)))))) rfl rfl hl.1 rfl (lv_room (Nat.le_of_ble_eq_true rfl)) dL_law_214 ⟨show cells + 1 ≤ 601024 by omega, show slots + 6 ≤ 7293034 by omega⟩) hP hD hS hA (fun _ => rfl) (fun r1 u H locs e1 hP8 hD8 hS => ?_)
      obtain ⟨er1, hu⟩ := e1
      have er1 : r1 = nI 2 := er1
      subst er1
      subst hu
      have hP := hP8
      have hD := hD8
      have hP : va_P D vwCl (z_W q o cI cR cS cL a u x v mv V) H := hP
      have hD : va_D (z_A s) (z_W q o cI cR cS cL a u x v mv V) := hD
      refine lv_istore (lv' := [(5, .int (nI 2)), (4, .int (nI i)), (0, .ref sb), (1, .ref (o 0)), (2, .ref (q 0)), (3, .ref a)]) hx hb dL_law_217 hl (by decide) rfl (fun ls hl => ?_)
      refine lv_aload_n hx hb dL_law_219 rfl (lv_at hl 4 rfl) ?_
      refine lv_aload_n hx hb dL_law_220 rfl (lv_at hl 2 rfl) ?_
      refine lv_iload hx hb dL_law_221 (lv_at hl 1 rfl) ?_
      refine o_const (k := 1) hx hb dL_law_223 (by decide) ?_
      refine o_iadd (k := i + 1) hx hb dL_law_224 rfl ?_
      refine z_ld (y := y1) hx hb hX hS (show i + 1 < L by omega) ey1 dL_law_225 ?_
      refine lv_aload_n hx hb dL_law_226 rfl (lv_at hl 2 rfl) ?_
      refine lv_iload hx hb dL_law_227 (lv_at hl 1 rfl) ?_
      refine o_const (k := 2) hx hb dL_law_229 (by decide) ?_
      refine o_iadd (k := i + 2) hx hb dL_law_230 rfl ?_
      refine z_ld (y := y2) hx hb hX hS (show i + 2 < L by omega) ey2 dL_law_231 ?_
      refine o_wi (va_runV (As := [.int (nI y1), .int (nI y2)]) (rest := []) ⟨hx, hb, hml, hown, hts⟩ (k_X5_chalk l D cI cR cS cL H.size q mv B y1 y2 (by first | assumption | omega) (by first | assumption | omega) (by first | assumption | omega) (by first | assumption | omega) (by first | assumption | omega)) (cwV 2 hts gL_law_X5_chalk rfl rfl rfl (by decide +kernel) ⟨Nat.le_of_ble_eq_true rfl, Nat.le_of_ble_eq_true rfl⟩) (o_v (o_pB hK hN (hP.sub (ws' := (wM q cI mv)) [0, 1, 2, 3, 4] rfl) (hD.sub (ws' := (wM q cI mv)) [0, 1, 2, 3, 4] (by decide +kernel) rfl)) (va_recv hK hP (ci := 5) (q0 := 0) rfl rfl)) rfl rfl hl.1 rfl (lv_room (Nat.le_of_ble_eq_true rfl)) dL_law_232 ⟨show cells + 1 + 0 ≤ 601024 by omega, show slots + 6 + 0 ≤ 7293034 by omega⟩) hP hD hS hA [0, 1, 2, 3, 4] (by decide +kernel) rfl (fun _ => rfl) (fun r2 _ H locs e2 hP hD hS => ?_)
      have hP : va_P D vwCl (z_W q o cI cR cS cL a u x v (m_act mv (mc_chalk (mv 1) y1 y2) (va_up (mv 1) (7 + y1) y2)) V) H := hP
      have hD : va_D (z_A s) (z_W q o cI cR cS cL a u x v (m_act mv (mc_chalk (mv 1) y1 y2) (va_up (mv 1) (7 + y1) y2)) V) := hD
      rw [ec] at hP hD
      refine lv_istore (lv' := [(6, .int r2), (5, .int (nI 2)), (4, .int (nI i)), (0, .ref sb), (1, .ref (o 0)), (2, .ref (q 0)), (3, .ref a)]) hx hb dL_law_235 hl (by decide) rfl (fun ls hl => ?_)
      refine lv_aload_n hx hb dL_law_237 rfl (lv_at hl 5 rfl) ?_
      refine o_ri (va_runV (As := []) (rest := []) ⟨hx, hb, hml, hown, hts⟩ (k_X5_thrown l D cI cR cS cL q (m_act mv 2 (va_up (mv 1) (7 + y1) y2))) (cwV 0 hts gL_law_X5_thrown rfl rfl rfl (by decide +kernel) ⟨Nat.le_of_ble_eq_true rfl, Nat.le_of_ble_eq_true rfl⟩) (o_v (o_pR hK hN (hP.sub (ws' := (wM q cI (m_act mv 2 (va_up (mv 1) (7 + y1) y2)))) [0, 1, 2, 3, 4] rfl)) (va_recv hK hP (ci := 5) (q0 := 0) rfl rfl)) rfl rfl hl.1 rfl (lv_room (Nat.le_of_ble_eq_true rfl)) dL_law_238 ⟨show cells + 1 + 0 ≤ 601024 by omega, show slots + 6 + 0 ≤ 7293034 by omega⟩) (fun r3 e3 => ?_)
      have e3 : r3 = nI 2 := e3.trans (congrArg nI (rfl : _ = 2))
      subst e3
      refine lv_iload hx hb dL_law_241 (lv_at hl 1 rfl) ?_
      refine o_icmp_eq (tgt := 248) hx hb dL_law_243 (by decide) (Nat.le_of_ble_eq_true rfl) (Nat.le_of_ble_eq_true rfl) (fun _ => ?_) (fun z => absurd rfl z)
      refine lv_iload hx hb dL_law_248 (lv_at hl 1 rfl) ?_
      refine o_if_ne (a := 2) (tgt := 265) hx hb dL_law_250 (by decide) (Nat.le_of_ble_eq_true rfl) (fun _ => ?_) (fun z => absurd z (by decide))
      refine lv_goto (tgt := 1310) hx hb dL_law_265 (by decide) ?_
      refine W.widen (k := cells + 1) (n := slots + 6) (by omega) (by omega) ?_
      exact K _ _ _ _ _ _ _ _ ⟨hP, hD, hS, g_actf G (by omega) (by decide)⟩ (z_drop hl)
  · skip
    have ec : mc_chalk (mv 1) y1 y2 = 1 := by unfold mc_chalk; rw [if_neg hc1]
    refine lv_aload_n hx hb dL_law_200 rfl (lv_at hl 2 rfl) ?_
    refine lv_aload_n hx hb dL_law_201 rfl (lv_at hl 1 rfl) ?_
    refine lv_iload hx hb dL_law_202 (lv_at hl 0 rfl) ?_
    refine o_const (k := 1) hx hb dL_law_204 (by decide) ?_
    refine o_iadd (k := i + 1) hx hb dL_law_205 rfl ?_
    refine z_ld (y := y1) hx hb hX hS (show i + 1 < L by omega) ey1 dL_law_206 ?_
    refine lv_aload_n hx hb dL_law_207 rfl (lv_at hl 1 rfl) ?_
    refine lv_iload hx hb dL_law_208 (lv_at hl 0 rfl) ?_
    refine o_const (k := 2) hx hb dL_law_210 (by decide) ?_
    refine o_iadd (k := i + 2) hx hb dL_law_211 rfl ?_
    refine z_ld (y := y2) hx hb hX hS (show i + 2 < L by omega) ey2 dL_law_212 ?_
    refine lv_aload_n hx hb dL_law_213 rfl (lv_at hl 4 rfl) ?_
    refine o_xiT (wM q cI mv) (vx_runSX (As := [.ref (o 0), .int (nI y1), .int (nI y2), .ref a]) (rest := []) ⟨hx, hb, hml, hown, hts⟩ (l_chalk_1 l D cI cR cS cL hfl H.size o x v (wV o cI cR V) B y1 y2 a g (by first | assumption | omega) (by first | assumption | omega)) (vx_cwSW 4 hts gL_law_L_chalk rfl rfl rfl (by decide +kernel) ⟨Nat.le_of_ble_eq_true rfl, Nat.le_of_ble_eq_true rfl⟩) (o_pF (W := [ol cL a 1 g] ++ (wO o cI cR cS x v (wV o cI cR V))) hK (hG.kept hS) (o_PT (pre := (wM q cI mv)) (ws := [ol cL a 1 g] ++ (wO o cI cR cS x v (wV o cI cR V))) hP) (o_DT (pre := (wM q cI mv)) (ws := [ol cL a 1 g] ++ (wO o cI cR cS x v (wV o cI cR V))) hD) (va_free hD hS hA _ (o_getT (wM q cI mv) ([ol cL a 1 g] ++ (wO o cI cR cS x v (wV o cI cR V)))))) rfl rfl hl.1 rfl (lv_room (Nat.le_of_ble_eq_true rfl)) dL_law_214 ⟨show cells + 1 ≤ 601024 by omega, show slots + 6 ≤ 7293034 by omega⟩) hP hD hS hA (fun _ => rfl) (fun r1 u H locs e1 hP8 hD8 hS => ?_)
    obtain ⟨er1, hu⟩ := e1
    have er1 : r1 = nI 1 := er1
    subst er1
    subst hu
    have hP := hP8
    have hD := hD8
    have hP : va_P D vwCl (z_W q o cI cR cS cL a u x v mv V) H := hP
    have hD : va_D (z_A s) (z_W q o cI cR cS cL a u x v mv V) := hD
    refine lv_istore (lv' := [(5, .int (nI 1)), (4, .int (nI i)), (0, .ref sb), (1, .ref (o 0)), (2, .ref (q 0)), (3, .ref a)]) hx hb dL_law_217 hl (by decide) rfl (fun ls hl => ?_)
    refine lv_aload_n hx hb dL_law_219 rfl (lv_at hl 4 rfl) ?_
    refine lv_aload_n hx hb dL_law_220 rfl (lv_at hl 2 rfl) ?_
    refine lv_iload hx hb dL_law_221 (lv_at hl 1 rfl) ?_
    refine o_const (k := 1) hx hb dL_law_223 (by decide) ?_
    refine o_iadd (k := i + 1) hx hb dL_law_224 rfl ?_
    refine z_ld (y := y1) hx hb hX hS (show i + 1 < L by omega) ey1 dL_law_225 ?_
    refine lv_aload_n hx hb dL_law_226 rfl (lv_at hl 2 rfl) ?_
    refine lv_iload hx hb dL_law_227 (lv_at hl 1 rfl) ?_
    refine o_const (k := 2) hx hb dL_law_229 (by decide) ?_
    refine o_iadd (k := i + 2) hx hb dL_law_230 rfl ?_
    refine z_ld (y := y2) hx hb hX hS (show i + 2 < L by omega) ey2 dL_law_231 ?_
    refine o_wi (va_runV (As := [.int (nI y1), .int (nI y2)]) (rest := []) ⟨hx, hb, hml, hown, hts⟩ (k_X5_chalk l D cI cR cS cL H.size q mv B y1 y2 (by first | assumption | omega) (by first | assumption | omega) (by first | assumption | omega) (by first | assumption | omega) (by first | assumption | omega)) (cwV 2 hts gL_law_X5_chalk rfl rfl rfl (by decide +kernel) ⟨Nat.le_of_ble_eq_true rfl, Nat.le_of_ble_eq_true rfl⟩) (o_v (o_pB hK hN (hP.sub (ws' := (wM q cI mv)) [0, 1, 2, 3, 4] rfl) (hD.sub (ws' := (wM q cI mv)) [0, 1, 2, 3, 4] (by decide +kernel) rfl)) (va_recv hK hP (ci := 5) (q0 := 0) rfl rfl)) rfl rfl hl.1 rfl (lv_room (Nat.le_of_ble_eq_true rfl)) dL_law_232 ⟨show cells + 1 + 0 ≤ 601024 by omega, show slots + 6 + 0 ≤ 7293034 by omega⟩) hP hD hS hA [0, 1, 2, 3, 4] (by decide +kernel) rfl (fun _ => rfl) (fun r2 _ H locs e2 hP hD hS => ?_)
    have hP : va_P D vwCl (z_W q o cI cR cS cL a u x v (m_act mv (mc_chalk (mv 1) y1 y2) (va_up (mv 1) (7 + y1) y2)) V) H := hP
    have hD : va_D (z_A s) (z_W q o cI cR cS cL a u x v (m_act mv (mc_chalk (mv 1) y1 y2) (va_up (mv 1) (7 + y1) y2)) V) := hD
    rw [ec] at hP hD
    refine lv_istore (lv' := [(6, .int r2), (5, .int (nI 1)), (4, .int (nI i)), (0, .ref sb), (1, .ref (o 0)), (2, .ref (q 0)), (3, .ref a)]) hx hb dL_law_235 hl (by decide) rfl (fun ls hl => ?_)
    refine lv_aload_n hx hb dL_law_237 rfl (lv_at hl 5 rfl) ?_
    refine o_ri (va_runV (As := []) (rest := []) ⟨hx, hb, hml, hown, hts⟩ (k_X5_thrown l D cI cR cS cL q (m_act mv 1 (va_up (mv 1) (7 + y1) y2))) (cwV 0 hts gL_law_X5_thrown rfl rfl rfl (by decide +kernel) ⟨Nat.le_of_ble_eq_true rfl, Nat.le_of_ble_eq_true rfl⟩) (o_v (o_pR hK hN (hP.sub (ws' := (wM q cI (m_act mv 1 (va_up (mv 1) (7 + y1) y2)))) [0, 1, 2, 3, 4] rfl)) (va_recv hK hP (ci := 5) (q0 := 0) rfl rfl)) rfl rfl hl.1 rfl (lv_room (Nat.le_of_ble_eq_true rfl)) dL_law_238 ⟨show cells + 1 + 0 ≤ 601024 by omega, show slots + 6 + 0 ≤ 7293034 by omega⟩) (fun r3 e3 => ?_)
    have e3 : r3 = nI 1 := e3.trans (congrArg nI (rfl : _ = 1))
    subst e3
    refine lv_iload hx hb dL_law_241 (lv_at hl 1 rfl) ?_
    refine o_icmp_eq (tgt := 248) hx hb dL_law_243 (by decide) (Nat.le_of_ble_eq_true rfl) (Nat.le_of_ble_eq_true rfl) (fun _ => ?_) (fun z => absurd rfl z)
    refine lv_iload hx hb dL_law_248 (lv_at hl 1 rfl) ?_
    refine o_if_ne (a := 1) (tgt := 265) hx hb dL_law_250 (by decide) (Nat.le_of_ble_eq_true rfl) (fun _ => ?_) (fun z => absurd z (by decide))
    refine lv_goto (tgt := 1310) hx hb dL_law_265 (by decide) ?_
    refine W.widen (k := cells + 1) (n := slots + 6) (by omega) (by omega) ?_
    exact K _ _ _ _ _ _ _ _ ⟨hP, hD, hS, g_actf G (by omega) (by decide)⟩ (z_drop hl)
set_option maxHeartbeats 4000000 in
set_option maxRecDepth 100000 in
theorem z_done {p : Program} {l : Launch} {e : Env} {s : State} {m : MethodId} {args : Array Value} {below : List Frame} {meth : Method} {c : Code} {Q : State → Prop} {D : va_G} {cI cR cS cL : ClassId} {sb L : Nat} {xs : Nat → Int32} {q o : Nat → Nat} {a i B cells slots : Nat} {H : Heap} {locs : List Loc} {ls : Array Slot} {x v mv : Nat → Nat → Nat} {V : Nat → Nat → Nat → Nat} {g : Nat → Int64} (C : z_C p l s m args c D cI cR cS cL sb L xs) (h : z_S s D q o cI cR cS cL a g x v mv V B H locs) (hl : lv_has ls 9 (z_L i sb a o q)) (hi : i + 3 ≤ L) (hB : B < 2 ^ 27) (hc : cells + 1 ≤ 601024) (hsl : slots + 6 ≤ 7293034) (K : z_N p l e s m args below meth c Q D cI cR cS cL sb q o a i (B + 60) (cells + 1) (slots + 6)) : W p l e room_1 s m args below meth c H locs cells slots Q (F0 m 268 ls []) := by
  obtain ⟨hx, hb, hml, hown, hts, hK, hfl, hX, hG⟩ := C
  obtain ⟨hP, hD, hS, G⟩ := h
  obtain ⟨hR, hSI, hI, -, -⟩ := id G
  obtain ⟨⟨gx0, gx1, gx2⟩, ⟨gx3, gx4, gx5⟩, hx1, hm3, hVI⟩ := g_x G
  have hN := hG.1
  have hA : ∀ q : Nat, s.heap.size ≤ q → z_A s q := fun _ h => h
  have hB28 : B < 2 ^ 28 := by omega
  have hs6 : mv 0 0 ≤ 6 := by omega
  have h60 : mv 0 1 ≤ 60 := by omega
  obtain ⟨y1, hy1, ey1⟩ := o_of (xs (i + 1))
  by_cases hc1 : y1 < 3
  · skip
    by_cases hm1 : m_mode (mv 1) y1 = 1
    · skip
      obtain ⟨ha, hr, G1⟩ := g_done G hB28 hc1 hm1
      have ec : mc_done (mv 1) y1 = 0 := by unfold mc_done; rw [if_pos hc1, if_pos hm1]
      refine lv_aload_n hx hb dL_law_268 rfl (lv_at hl 2 rfl) ?_
      refine lv_aload_n hx hb dL_law_269 rfl (lv_at hl 1 rfl) ?_
      refine lv_iload hx hb dL_law_270 (lv_at hl 0 rfl) ?_
      refine o_const (k := 1) hx hb dL_law_272 (by decide) ?_
      refine o_iadd (k := i + 1) hx hb dL_law_273 rfl ?_
      refine z_ld (y := y1) hx hb hX hS (show i + 1 < L by omega) ey1 dL_law_274 ?_
      refine lv_aload_n hx hb dL_law_275 rfl (lv_at hl 4 rfl) ?_
      refine o_xiT (wM q cI mv) (vx_runSX (As := [.ref (o 0), .int (nI y1), .ref a]) (rest := []) ⟨hx, hb, hml, hown, hts⟩ (l_done_0 l D cI cR cS cL H.size o x v V B y1 a g (by first | assumption | omega) (by first | assumption | omega) (by first | assumption | omega) (by first | assumption | omega) (by first | assumption | omega) (by first | assumption | omega)) (vx_cwSW 3 hts gL_law_L_done rfl rfl rfl (by decide +kernel) ⟨Nat.le_of_ble_eq_true rfl, Nat.le_of_ble_eq_true rfl⟩) (o_pF (W := [ol cL a 1 g] ++ (wO o cI cR cS x v (wV o cI cR V))) hK (hG.kept hS) (o_PT (pre := (wM q cI mv)) (ws := [ol cL a 1 g] ++ (wO o cI cR cS x v (wV o cI cR V))) hP) (o_DT (pre := (wM q cI mv)) (ws := [ol cL a 1 g] ++ (wO o cI cR cS x v (wV o cI cR V))) hD) (va_free hD hS hA _ (o_getT (wM q cI mv) ([ol cL a 1 g] ++ (wO o cI cR cS x v (wV o cI cR V)))))) rfl rfl hl.1 rfl (lv_room (Nat.le_of_ble_eq_true rfl)) dL_law_276 ⟨show cells + 0 ≤ 601024 by omega, show slots + 0 ≤ 7293034 by omega⟩) hP hD hS hA (fun _ => rfl) (fun r1 u H locs e1 hP8 hD8 hS => ?_)
      obtain ⟨er1, hu⟩ := e1
      have er1 : r1 = nI 0 := er1
      subst er1
      have hu : u 0 = (nI ((v 0 0 + 1) / 2)).toInt64 := hu
      have hP := hP8
      have hD := hD8
      have hP : va_P D vwCl (z_W q o cI cR cS cL a u (va_up x 0 (c_sv (x 0))) (b_leave v y1) mv (c_put V ((x 0 3 + x 0 4) % 6) v)) H := hP
      have hD : va_D (z_A s) (z_W q o cI cR cS cL a u (va_up x 0 (c_sv (x 0))) (b_leave v y1) mv (c_put V ((x 0 3 + x 0 4) % 6) v)) := hD
      refine lv_istore (lv' := [(5, .int (nI 0)), (4, .int (nI i)), (0, .ref sb), (1, .ref (o 0)), (2, .ref (q 0)), (3, .ref a)]) hx hb dL_law_279 hl (by decide) rfl (fun ls hl => ?_)
      refine lv_aload_n hx hb dL_law_281 rfl (lv_at hl 4 rfl) ?_
      refine lv_aload_n hx hb dL_law_282 rfl (lv_at hl 2 rfl) ?_
      refine lv_iload hx hb dL_law_283 (lv_at hl 1 rfl) ?_
      refine o_const (k := 1) hx hb dL_law_285 (by decide) ?_
      refine o_iadd (k := i + 1) hx hb dL_law_286 rfl ?_
      refine z_ld (y := y1) hx hb hX hS (show i + 1 < L by omega) ey1 dL_law_287 ?_
      refine o_wi (va_runV (As := [.int (nI y1)]) (rest := []) ⟨hx, hb, hml, hown, hts⟩ (k_X5_done l D cI cR cS cL H.size q mv B y1 (by first | assumption | omega) (by first | assumption | omega) (by first | assumption | omega) (by first | assumption | omega)) (cwV 1 hts gL_law_X5_done rfl rfl rfl (by decide +kernel) ⟨Nat.le_of_ble_eq_true rfl, Nat.le_of_ble_eq_true rfl⟩) (o_v (o_pB hK hN (hP.sub (ws' := (wM q cI mv)) [0, 1, 2, 3, 4] rfl) (hD.sub (ws' := (wM q cI mv)) [0, 1, 2, 3, 4] (by decide +kernel) rfl)) (va_recv hK hP (ci := 5) (q0 := 0) rfl rfl)) rfl rfl hl.1 rfl (lv_room (Nat.le_of_ble_eq_true rfl)) dL_law_288 ⟨show cells + 0 + 0 ≤ 601024 by omega, show slots + 0 + 0 ≤ 7293034 by omega⟩) hP hD hS hA [0, 1, 2, 3, 4] (by decide +kernel) rfl (fun _ => rfl) (fun r2 _ H locs e2 hP hD hS => ?_)
      have hP : va_P D vwCl (z_W q o cI cR cS cL a u (va_up x 0 (c_sv (x 0))) (b_leave v y1) (m_act mv (mc_done (mv 1) y1) (m_ends (mv 1) y1)) (c_put V ((x 0 3 + x 0 4) % 6) v)) H := hP
      have hD : va_D (z_A s) (z_W q o cI cR cS cL a u (va_up x 0 (c_sv (x 0))) (b_leave v y1) (m_act mv (mc_done (mv 1) y1) (m_ends (mv 1) y1)) (c_put V ((x 0 3 + x 0 4) % 6) v)) := hD
      rw [ec] at hP hD
      have e2 : r2 = nI (if (mc_done (mv 1) y1) = 0 then (mv 1 0 + 1) / 2 else 0) := e2
      have er : (if (mc_done (mv 1) y1) = 0 then (mv 1 0 + 1) / 2 else 0) = ((v 0 0 + 1) / 2) := by rw [ec, if_pos rfl]; exact hr.symm
      rw [er] at e2
      subst e2
      refine lv_istore (lv' := [(6, .int (nI ((v 0 0 + 1) / 2))), (5, .int (nI 0)), (4, .int (nI i)), (0, .ref sb), (1, .ref (o 0)), (2, .ref (q 0)), (3, .ref a)]) hx hb dL_law_291 hl (by decide) rfl (fun ls hl => ?_)
      refine lv_aload_n hx hb dL_law_293 rfl (lv_at hl 5 rfl) ?_
      refine o_ri (va_runV (As := []) (rest := []) ⟨hx, hb, hml, hown, hts⟩ (k_X5_thrown l D cI cR cS cL q (m_act mv 0 (m_ends (mv 1) y1))) (cwV 0 hts gL_law_X5_thrown rfl rfl rfl (by decide +kernel) ⟨Nat.le_of_ble_eq_true rfl, Nat.le_of_ble_eq_true rfl⟩) (o_v (o_pR hK hN (hP.sub (ws' := (wM q cI (m_act mv 0 (m_ends (mv 1) y1)))) [0, 1, 2, 3, 4] rfl)) (va_recv hK hP (ci := 5) (q0 := 0) rfl rfl)) rfl rfl hl.1 rfl (lv_room (Nat.le_of_ble_eq_true rfl)) dL_law_294 ⟨show cells + 0 + 0 ≤ 601024 by omega, show slots + 0 + 0 ≤ 7293034 by omega⟩) (fun r3 e3 => ?_)
      have e3 : r3 = nI 0 := e3.trans (congrArg nI (rfl : _ = 0))
      subst e3
      refine lv_iload hx hb dL_law_297 (lv_at hl 1 rfl) ?_
      refine o_icmp_eq (tgt := 304) hx hb dL_law_299 (by decide) (Nat.le_of_ble_eq_true rfl) (Nat.le_of_ble_eq_true rfl) (fun _ => ?_) (fun z => absurd rfl z)
      refine lv_iload hx hb dL_law_304 (lv_at hl 1 rfl) ?_
      refine o_if_ne (a := 0) (tgt := 321) hx hb dL_law_306 (by decide) (Nat.le_of_ble_eq_true rfl) (fun z => absurd rfl z) (fun _ => ?_)
      refine lv_aload_n hx hb dL_law_309 rfl (lv_at hl 6 rfl) ?_
      refine o_const (k := 0) hx hb dL_law_310 (by decide) ?_
      refine va_lald hx hb hK hP 5 3 rfl rfl (vp_in_nI (by decide) (by decide)) dL_law_311 ?_
      refine o_tl (congrArg u (nI_clamp (show 0 < 2 ^ 31 by decide))) ?_
      refine lv_iload hx hb dL_law_312 (lv_at hl 0 rfl) ?_
      refine lv_i2l (v := (nI ((v 0 0 + 1) / 2)).toInt64) hx hb dL_law_314 rfl ?_
      refine W.lcmp hx hb dL_law_315 ?_
      refine o_ti (z_cmp hu) ?_
      refine o_if_eq (a := 0) (tgt := 321) hx hb dL_law_316 (by decide) (Nat.le_of_ble_eq_true rfl) (fun _ => ?_) (fun z => absurd rfl z)
      refine lv_goto (tgt := 1310) hx hb dL_law_321 (by decide) ?_
      refine W.widen (k := cells + 1) (n := slots + 6) (by omega) (by omega) ?_
      exact K _ _ _ _ _ _ _ _ ⟨hP, hD, hS, g_up G1 (by omega)⟩ (z_drop hl)
    · skip
      have hbad : ¬ v 3 y1 = 0 := fun z => hm1 ((p_mode hR hI hc1).2.1.mp z)
      have ec : mc_done (mv 1) y1 = 2 := by unfold mc_done; rw [if_pos hc1, if_neg hm1]
      refine lv_aload_n hx hb dL_law_268 rfl (lv_at hl 2 rfl) ?_
      refine lv_aload_n hx hb dL_law_269 rfl (lv_at hl 1 rfl) ?_
      refine lv_iload hx hb dL_law_270 (lv_at hl 0 rfl) ?_
      refine o_const (k := 1) hx hb dL_law_272 (by decide) ?_
      refine o_iadd (k := i + 1) hx hb dL_law_273 rfl ?_
      refine z_ld (y := y1) hx hb hX hS (show i + 1 < L by omega) ey1 dL_law_274 ?_
      refine lv_aload_n hx hb dL_law_275 rfl (lv_at hl 4 rfl) ?_
      refine o_xiT (wM q cI mv) (vx_runSX (As := [.ref (o 0), .int (nI y1), .ref a]) (rest := []) ⟨hx, hb, hml, hown, hts⟩ (l_done_2 l D cI cR cS cL hfl H.size o x v (wV o cI cR V) B y1 a g (by first | assumption | omega) (by first | assumption | omega) (by first | assumption | omega) (by first | assumption | omega)) (vx_cwSW 3 hts gL_law_L_done rfl rfl rfl (by decide +kernel) ⟨Nat.le_of_ble_eq_true rfl, Nat.le_of_ble_eq_true rfl⟩) (o_pF (W := [ol cL a 1 g] ++ (wO o cI cR cS x v (wV o cI cR V))) hK (hG.kept hS) (o_PT (pre := (wM q cI mv)) (ws := [ol cL a 1 g] ++ (wO o cI cR cS x v (wV o cI cR V))) hP) (o_DT (pre := (wM q cI mv)) (ws := [ol cL a 1 g] ++ (wO o cI cR cS x v (wV o cI cR V))) hD) (va_free hD hS hA _ (o_getT (wM q cI mv) ([ol cL a 1 g] ++ (wO o cI cR cS x v (wV o cI cR V)))))) rfl rfl hl.1 rfl (lv_room (Nat.le_of_ble_eq_true rfl)) dL_law_276 ⟨show cells + 1 ≤ 601024 by omega, show slots + 6 ≤ 7293034 by omega⟩) hP hD hS hA (fun _ => rfl) (fun r1 u H locs e1 hP8 hD8 hS => ?_)
      obtain ⟨er1, hu⟩ := e1
      have er1 : r1 = nI 2 := er1
      subst er1
      subst hu
      have hP := hP8
      have hD := hD8
      have hP : va_P D vwCl (z_W q o cI cR cS cL a u x v mv V) H := hP
      have hD : va_D (z_A s) (z_W q o cI cR cS cL a u x v mv V) := hD
      refine lv_istore (lv' := [(5, .int (nI 2)), (4, .int (nI i)), (0, .ref sb), (1, .ref (o 0)), (2, .ref (q 0)), (3, .ref a)]) hx hb dL_law_279 hl (by decide) rfl (fun ls hl => ?_)
      refine lv_aload_n hx hb dL_law_281 rfl (lv_at hl 4 rfl) ?_
      refine lv_aload_n hx hb dL_law_282 rfl (lv_at hl 2 rfl) ?_
      refine lv_iload hx hb dL_law_283 (lv_at hl 1 rfl) ?_
      refine o_const (k := 1) hx hb dL_law_285 (by decide) ?_
      refine o_iadd (k := i + 1) hx hb dL_law_286 rfl ?_
      refine z_ld (y := y1) hx hb hX hS (show i + 1 < L by omega) ey1 dL_law_287 ?_
      refine o_wi (va_runV (As := [.int (nI y1)]) (rest := []) ⟨hx, hb, hml, hown, hts⟩ (k_X5_done l D cI cR cS cL H.size q mv B y1 (by first | assumption | omega) (by first | assumption | omega) (by first | assumption | omega) (by first | assumption | omega)) (cwV 1 hts gL_law_X5_done rfl rfl rfl (by decide +kernel) ⟨Nat.le_of_ble_eq_true rfl, Nat.le_of_ble_eq_true rfl⟩) (o_v (o_pB hK hN (hP.sub (ws' := (wM q cI mv)) [0, 1, 2, 3, 4] rfl) (hD.sub (ws' := (wM q cI mv)) [0, 1, 2, 3, 4] (by decide +kernel) rfl)) (va_recv hK hP (ci := 5) (q0 := 0) rfl rfl)) rfl rfl hl.1 rfl (lv_room (Nat.le_of_ble_eq_true rfl)) dL_law_288 ⟨show cells + 1 + 0 ≤ 601024 by omega, show slots + 6 + 0 ≤ 7293034 by omega⟩) hP hD hS hA [0, 1, 2, 3, 4] (by decide +kernel) rfl (fun _ => rfl) (fun r2 _ H locs e2 hP hD hS => ?_)
      have hP : va_P D vwCl (z_W q o cI cR cS cL a u x v (m_act mv (mc_done (mv 1) y1) (m_ends (mv 1) y1)) V) H := hP
      have hD : va_D (z_A s) (z_W q o cI cR cS cL a u x v (m_act mv (mc_done (mv 1) y1) (m_ends (mv 1) y1)) V) := hD
      rw [ec] at hP hD
      refine lv_istore (lv' := [(6, .int r2), (5, .int (nI 2)), (4, .int (nI i)), (0, .ref sb), (1, .ref (o 0)), (2, .ref (q 0)), (3, .ref a)]) hx hb dL_law_291 hl (by decide) rfl (fun ls hl => ?_)
      refine lv_aload_n hx hb dL_law_293 rfl (lv_at hl 5 rfl) ?_
      refine o_ri (va_runV (As := []) (rest := []) ⟨hx, hb, hml, hown, hts⟩ (k_X5_thrown l D cI cR cS cL q (m_act mv 2 (m_ends (mv 1) y1))) (cwV 0 hts gL_law_X5_thrown rfl rfl rfl (by decide +kernel) ⟨Nat.le_of_ble_eq_true rfl, Nat.le_of_ble_eq_true rfl⟩) (o_v (o_pR hK hN (hP.sub (ws' := (wM q cI (m_act mv 2 (m_ends (mv 1) y1)))) [0, 1, 2, 3, 4] rfl)) (va_recv hK hP (ci := 5) (q0 := 0) rfl rfl)) rfl rfl hl.1 rfl (lv_room (Nat.le_of_ble_eq_true rfl)) dL_law_294 ⟨show cells + 1 + 0 ≤ 601024 by omega, show slots + 6 + 0 ≤ 7293034 by omega⟩) (fun r3 e3 => ?_)
      have e3 : r3 = nI 2 := e3.trans (congrArg nI (rfl : _ = 2))
      subst e3
      refine lv_iload hx hb dL_law_297 (lv_at hl 1 rfl) ?_
      refine o_icmp_eq (tgt := 304) hx hb dL_law_299 (by decide) (Nat.le_of_ble_eq_true rfl) (Nat.le_of_ble_eq_true rfl) (fun _ => ?_) (fun z => absurd rfl z)
      refine lv_iload hx hb dL_law_304 (lv_at hl 1 rfl) ?_
      refine o_if_ne (a := 2) (tgt := 321) hx hb dL_law_306 (by decide) (Nat.le_of_ble_eq_true rfl) (fun _ => ?_) (fun z => absurd z (by decide))
      refine lv_goto (tgt := 1310) hx hb dL_law_321 (by decide) ?_
      refine W.widen (k := cells + 1) (n := slots + 6) (by omega) (by omega) ?_
      exact K _ _ _ _ _ _ _ _ ⟨hP, hD, hS, g_actf G (by omega) (by decide)⟩ (z_drop hl)
  · skip
    have ec : mc_done (mv 1) y1 = 1 := by unfold mc_done; rw [if_neg hc1]
    refine lv_aload_n hx hb dL_law_268 rfl (lv_at hl 2 rfl) ?_
    refine lv_aload_n hx hb dL_law_269 rfl (lv_at hl 1 rfl) ?_
    refine lv_iload hx hb dL_law_270 (lv_at hl 0 rfl) ?_
    refine o_const (k := 1) hx hb dL_law_272 (by decide) ?_
    refine o_iadd (k := i + 1) hx hb dL_law_273 rfl ?_
    refine z_ld (y := y1) hx hb hX hS (show i + 1 < L by omega) ey1 dL_law_274 ?_
    refine lv_aload_n hx hb dL_law_275 rfl (lv_at hl 4 rfl) ?_
    refine o_xiT (wM q cI mv) (vx_runSX (As := [.ref (o 0), .int (nI y1), .ref a]) (rest := []) ⟨hx, hb, hml, hown, hts⟩ (l_done_1 l D cI cR cS cL hfl H.size o x v (wV o cI cR V) B y1 a g (by first | assumption | omega) (by first | assumption | omega)) (vx_cwSW 3 hts gL_law_L_done rfl rfl rfl (by decide +kernel) ⟨Nat.le_of_ble_eq_true rfl, Nat.le_of_ble_eq_true rfl⟩) (o_pF (W := [ol cL a 1 g] ++ (wO o cI cR cS x v (wV o cI cR V))) hK (hG.kept hS) (o_PT (pre := (wM q cI mv)) (ws := [ol cL a 1 g] ++ (wO o cI cR cS x v (wV o cI cR V))) hP) (o_DT (pre := (wM q cI mv)) (ws := [ol cL a 1 g] ++ (wO o cI cR cS x v (wV o cI cR V))) hD) (va_free hD hS hA _ (o_getT (wM q cI mv) ([ol cL a 1 g] ++ (wO o cI cR cS x v (wV o cI cR V)))))) rfl rfl hl.1 rfl (lv_room (Nat.le_of_ble_eq_true rfl)) dL_law_276 ⟨show cells + 1 ≤ 601024 by omega, show slots + 6 ≤ 7293034 by omega⟩) hP hD hS hA (fun _ => rfl) (fun r1 u H locs e1 hP8 hD8 hS => ?_)
    obtain ⟨er1, hu⟩ := e1
    have er1 : r1 = nI 1 := er1
    subst er1
    subst hu
    have hP := hP8
    have hD := hD8
    have hP : va_P D vwCl (z_W q o cI cR cS cL a u x v mv V) H := hP
    have hD : va_D (z_A s) (z_W q o cI cR cS cL a u x v mv V) := hD
    refine lv_istore (lv' := [(5, .int (nI 1)), (4, .int (nI i)), (0, .ref sb), (1, .ref (o 0)), (2, .ref (q 0)), (3, .ref a)]) hx hb dL_law_279 hl (by decide) rfl (fun ls hl => ?_)
    refine lv_aload_n hx hb dL_law_281 rfl (lv_at hl 4 rfl) ?_
    refine lv_aload_n hx hb dL_law_282 rfl (lv_at hl 2 rfl) ?_
    refine lv_iload hx hb dL_law_283 (lv_at hl 1 rfl) ?_
    refine o_const (k := 1) hx hb dL_law_285 (by decide) ?_
    refine o_iadd (k := i + 1) hx hb dL_law_286 rfl ?_
    refine z_ld (y := y1) hx hb hX hS (show i + 1 < L by omega) ey1 dL_law_287 ?_
    refine o_wi (va_runV (As := [.int (nI y1)]) (rest := []) ⟨hx, hb, hml, hown, hts⟩ (k_X5_done l D cI cR cS cL H.size q mv B y1 (by first | assumption | omega) (by first | assumption | omega) (by first | assumption | omega) (by first | assumption | omega)) (cwV 1 hts gL_law_X5_done rfl rfl rfl (by decide +kernel) ⟨Nat.le_of_ble_eq_true rfl, Nat.le_of_ble_eq_true rfl⟩) (o_v (o_pB hK hN (hP.sub (ws' := (wM q cI mv)) [0, 1, 2, 3, 4] rfl) (hD.sub (ws' := (wM q cI mv)) [0, 1, 2, 3, 4] (by decide +kernel) rfl)) (va_recv hK hP (ci := 5) (q0 := 0) rfl rfl)) rfl rfl hl.1 rfl (lv_room (Nat.le_of_ble_eq_true rfl)) dL_law_288 ⟨show cells + 1 + 0 ≤ 601024 by omega, show slots + 6 + 0 ≤ 7293034 by omega⟩) hP hD hS hA [0, 1, 2, 3, 4] (by decide +kernel) rfl (fun _ => rfl) (fun r2 _ H locs e2 hP hD hS => ?_)
    have hP : va_P D vwCl (z_W q o cI cR cS cL a u x v (m_act mv (mc_done (mv 1) y1) (m_ends (mv 1) y1)) V) H := hP
    have hD : va_D (z_A s) (z_W q o cI cR cS cL a u x v (m_act mv (mc_done (mv 1) y1) (m_ends (mv 1) y1)) V) := hD
    rw [ec] at hP hD
    refine lv_istore (lv' := [(6, .int r2), (5, .int (nI 1)), (4, .int (nI i)), (0, .ref sb), (1, .ref (o 0)), (2, .ref (q 0)), (3, .ref a)]) hx hb dL_law_291 hl (by decide) rfl (fun ls hl => ?_)
    refine lv_aload_n hx hb dL_law_293 rfl (lv_at hl 5 rfl) ?_
    refine o_ri (va_runV (As := []) (rest := []) ⟨hx, hb, hml, hown, hts⟩ (k_X5_thrown l D cI cR cS cL q (m_act mv 1 (m_ends (mv 1) y1))) (cwV 0 hts gL_law_X5_thrown rfl rfl rfl (by decide +kernel) ⟨Nat.le_of_ble_eq_true rfl, Nat.le_of_ble_eq_true rfl⟩) (o_v (o_pR hK hN (hP.sub (ws' := (wM q cI (m_act mv 1 (m_ends (mv 1) y1)))) [0, 1, 2, 3, 4] rfl)) (va_recv hK hP (ci := 5) (q0 := 0) rfl rfl)) rfl rfl hl.1 rfl (lv_room (Nat.le_of_ble_eq_true rfl)) dL_law_294 ⟨show cells + 1 + 0 ≤ 601024 by omega, show slots + 6 + 0 ≤ 7293034 by omega⟩) (fun r3 e3 => ?_)
    have e3 : r3 = nI 1 := e3.trans (congrArg nI (rfl : _ = 1))
    subst e3
    refine lv_iload hx hb dL_law_297 (lv_at hl 1 rfl) ?_
    refine o_icmp_eq (tgt := 304) hx hb dL_law_299 (by decide) (Nat.le_of_ble_eq_true rfl) (Nat.le_of_ble_eq_true rfl) (fun _ => ?_) (fun z => absurd rfl z)
    refine lv_iload hx hb dL_law_304 (lv_at hl 1 rfl) ?_
    refine o_if_ne (a := 1) (tgt := 321) hx hb dL_law_306 (by decide) (Nat.le_of_ble_eq_true rfl) (fun _ => ?_) (fun z => absurd z (by decide))
    refine lv_goto (tgt := 1310) hx hb dL_law_321 (by decide) ?_
    refine W.widen (k := cells + 1) (n := slots + 6) (by omega) (by omega) ?_
    exact K _ _ _ _ _ _ _ _ ⟨hP, hD, hS, g_actf G (by omega) (by decide)⟩ (z_drop hl)
set_option maxHeartbeats 4000000 in
set_option maxRecDepth 100000 in
theorem z_reader {p : Program} {l : Launch} {e : Env} {s : State} {m : MethodId} {args : Array Value} {below : List Frame} {meth : Method} {c : Code} {Q : State → Prop} {D : va_G} {cI cR cS cL : ClassId} {sb L : Nat} {xs : Nat → Int32} {q o : Nat → Nat} {a i B cells slots : Nat} {H : Heap} {locs : List Loc} {ls : Array Slot} {x v mv : Nat → Nat → Nat} {V : Nat → Nat → Nat → Nat} {g : Nat → Int64} (C : z_C p l s m args c D cI cR cS cL sb L xs) (h : z_S s D q o cI cR cS cL a g x v mv V B H locs) (hl : lv_has ls 9 (z_L i sb a o q)) (hi : i + 3 ≤ L) (hB : B < 2 ^ 27) (hc : cells + 1 ≤ 601024) (hsl : slots + 6 ≤ 7293034) (K : z_N p l e s m args below meth c Q D cI cR cS cL sb q o a i (B + 60) (cells + 1) (slots + 6)) : W p l e room_1 s m args below meth c H locs cells slots Q (F0 m 324 ls []) := by
  obtain ⟨hx, hb, hml, hown, hts, hK, hfl, hX, hG⟩ := C
  obtain ⟨hP, hD, hS, G⟩ := h
  obtain ⟨hR, hSI, hI, -, -⟩ := id G
  obtain ⟨⟨gx0, gx1, gx2⟩, ⟨gx3, gx4, gx5⟩, hx1, hm3, hVI⟩ := g_x G
  have hN := hG.1
  have hA : ∀ q : Nat, s.heap.size ≤ q → z_A s q := fun _ h => h
  have hB28 : B < 2 ^ 28 := by omega
  have hs6 : mv 0 0 ≤ 6 := by omega
  have h60 : mv 0 1 ≤ 60 := by omega
  obtain ⟨y1, hy1, ey1⟩ := o_of (xs (i + 1))
  obtain ⟨y2, hy2, ey2⟩ := o_of (xs (i + 2))
  by_cases hz : y2 = 0
  · skip
    by_cases hc1 : y1 < 4
    · skip
      obtain ⟨hr, G1⟩ := g_reader (h := 0) G hc1 (by decide)
      have hh : 0 ≤ 1 := by decide
      have ec : mc_reader y1 = 0 := by unfold mc_reader; rw [if_pos hc1]
      refine lv_aload_n hx hb dL_law_324 rfl (lv_at hl 2 rfl) ?_
      refine lv_aload_n hx hb dL_law_325 rfl (lv_at hl 1 rfl) ?_
      refine lv_iload hx hb dL_law_326 (lv_at hl 0 rfl) ?_
      refine o_const (k := 1) hx hb dL_law_328 (by decide) ?_
      refine o_iadd (k := i + 1) hx hb dL_law_329 rfl ?_
      refine z_ld (y := y1) hx hb hX hS (show i + 1 < L by omega) ey1 dL_law_330 ?_
      refine lv_aload_n hx hb dL_law_331 rfl (lv_at hl 1 rfl) ?_
      refine lv_iload hx hb dL_law_332 (lv_at hl 0 rfl) ?_
      refine o_const (k := 2) hx hb dL_law_334 (by decide) ?_
      refine o_iadd (k := i + 2) hx hb dL_law_335 rfl ?_
      refine z_ld (y := y2) hx hb hX hS (show i + 2 < L by omega) ey2 dL_law_336 ?_
      refine o_if_eq (tgt := 344) hx hb dL_law_337 (by decide) hy2 (fun _ => ?_) (fun z => absurd hz z)
      refine o_const (k := 0) hx hb dL_law_344 (by decide) ?_
      refine lv_aload_n hx hb dL_law_345 rfl (lv_at hl 4 rfl) ?_
      refine o_xiT (wM q cI mv) (vx_runSX (As := [.ref (o 0), .int (nI y1), .int (nI 0), .ref a]) (rest := []) ⟨hx, hb, hml, hown, hts⟩ (l_reader_0 l D cI cR cS cL H.size o x v V B y1 0 a g (by first | assumption | omega) (by first | assumption | omega) (by first | assumption | omega) (by first | assumption | omega) (by first | assumption | omega) (by first | assumption | omega)) (vx_cwSW 4 hts gL_law_L_reader rfl rfl rfl (by decide +kernel) ⟨Nat.le_of_ble_eq_true rfl, Nat.le_of_ble_eq_true rfl⟩) (o_pF (W := [ol cL a 1 g] ++ (wO o cI cR cS x v (wV o cI cR V))) hK (hG.kept hS) (o_PT (pre := (wM q cI mv)) (ws := [ol cL a 1 g] ++ (wO o cI cR cS x v (wV o cI cR V))) hP) (o_DT (pre := (wM q cI mv)) (ws := [ol cL a 1 g] ++ (wO o cI cR cS x v (wV o cI cR V))) hD) (va_free hD hS hA _ (o_getT (wM q cI mv) ([ol cL a 1 g] ++ (wO o cI cR cS x v (wV o cI cR V)))))) rfl rfl hl.1 rfl (lv_room (Nat.le_of_ble_eq_true rfl)) dL_law_346 ⟨show cells + 0 ≤ 601024 by omega, show slots + 0 ≤ 7293034 by omega⟩) hP hD hS hA (fun _ => rfl) (fun r1 u H locs e1 hP8 hD8 hS => ?_)
      obtain ⟨er1, hu⟩ := e1
      have er1 : r1 = nI 0 := er1
      subst er1
      have hu : u 0 = (nI (v (5 + 3 * y1) 0)).toInt64 := hu
      have hP := hP8
      have hD := hD8
      have hP : va_P D vwCl (z_W q o cI cR cS cL a u (va_up x 0 (c_sv (x 0))) (va_up v (5 + 3 * y1) (r_anew (fun j => v (j + (5 + 3 * y1))) 0 0)) mv (c_put V ((x 0 3 + x 0 4) % 6) v)) H := hP
      have hD : va_D (z_A s) (z_W q o cI cR cS cL a u (va_up x 0 (c_sv (x 0))) (va_up v (5 + 3 * y1) (r_anew (fun j => v (j + (5 + 3 * y1))) 0 0)) mv (c_put V ((x 0 3 + x 0 4) % 6) v)) := hD
      refine lv_istore (lv' := [(5, .int (nI 0)), (4, .int (nI i)), (0, .ref sb), (1, .ref (o 0)), (2, .ref (q 0)), (3, .ref a)]) hx hb dL_law_349 hl (by decide) rfl (fun ls hl => ?_)
      refine lv_aload_n hx hb dL_law_351 rfl (lv_at hl 4 rfl) ?_
      refine lv_aload_n hx hb dL_law_352 rfl (lv_at hl 2 rfl) ?_
      refine lv_iload hx hb dL_law_353 (lv_at hl 1 rfl) ?_
      refine o_const (k := 1) hx hb dL_law_355 (by decide) ?_
      refine o_iadd (k := i + 1) hx hb dL_law_356 rfl ?_
      refine z_ld (y := y1) hx hb hX hS (show i + 1 < L by omega) ey1 dL_law_357 ?_
      refine lv_aload_n hx hb dL_law_358 rfl (lv_at hl 2 rfl) ?_
      refine lv_iload hx hb dL_law_359 (lv_at hl 1 rfl) ?_
      refine o_const (k := 2) hx hb dL_law_361 (by decide) ?_
      refine o_iadd (k := i + 2) hx hb dL_law_362 rfl ?_
      refine z_ld (y := y2) hx hb hX hS (show i + 2 < L by omega) ey2 dL_law_363 ?_
      refine o_if_eq (tgt := 371) hx hb dL_law_364 (by decide) hy2 (fun _ => ?_) (fun z => absurd hz z)
      refine o_const (k := 0) hx hb dL_law_371 (by decide) ?_
      refine o_wi (va_runV (As := [.int (nI y1), .int (nI 0)]) (rest := []) ⟨hx, hb, hml, hown, hts⟩ (k_X5_reader l D cI cR cS cL H.size q mv B y1 0 (by first | assumption | omega) (by first | assumption | omega) (by first | assumption | omega) (by first | assumption | omega) (by first | assumption | omega)) (cwV 2 hts gL_law_X5_reader rfl rfl rfl (by decide +kernel) ⟨Nat.le_of_ble_eq_true rfl, Nat.le_of_ble_eq_true rfl⟩) (o_v (o_pB hK hN (hP.sub (ws' := (wM q cI mv)) [0, 1, 2, 3, 4] rfl) (hD.sub (ws' := (wM q cI mv)) [0, 1, 2, 3, 4] (by decide +kernel) rfl)) (va_recv hK hP (ci := 5) (q0 := 0) rfl rfl)) rfl rfl hl.1 rfl (lv_room (Nat.le_of_ble_eq_true rfl)) dL_law_372 ⟨show cells + 0 + 0 ≤ 601024 by omega, show slots + 0 + 0 ≤ 7293034 by omega⟩) hP hD hS hA [0, 1, 2, 3, 4] (by decide +kernel) rfl (fun _ => rfl) (fun r2 _ H locs e2 hP hD hS => ?_)
      have hP : va_P D vwCl (z_W q o cI cR cS cL a u (va_up x 0 (c_sv (x 0))) (va_up v (5 + 3 * y1) (r_anew (fun j => v (j + (5 + 3 * y1))) 0 0)) (m_act mv (mc_reader y1) (m_anew (mv 1) y1 0)) (c_put V ((x 0 3 + x 0 4) % 6) v)) H := hP
      have hD : va_D (z_A s) (z_W q o cI cR cS cL a u (va_up x 0 (c_sv (x 0))) (va_up v (5 + 3 * y1) (r_anew (fun j => v (j + (5 + 3 * y1))) 0 0)) (m_act mv (mc_reader y1) (m_anew (mv 1) y1 0)) (c_put V ((x 0 3 + x 0 4) % 6) v)) := hD
      rw [ec] at hP hD
      have e2 : r2 = nI (if (mc_reader y1) = 0 then mv 1 (15 + 17 * y1) else 0) := e2
      have er : (if (mc_reader y1) = 0 then mv 1 (15 + 17 * y1) else 0) = (v (5 + 3 * y1) 0) := by rw [ec, if_pos rfl]; exact hr.symm
      rw [er] at e2
      subst e2
      refine lv_istore (lv' := [(6, .int (nI (v (5 + 3 * y1) 0))), (5, .int (nI 0)), (4, .int (nI i)), (0, .ref sb), (1, .ref (o 0)), (2, .ref (q 0)), (3, .ref a)]) hx hb dL_law_375 hl (by decide) rfl (fun ls hl => ?_)
      refine lv_aload_n hx hb dL_law_377 rfl (lv_at hl 5 rfl) ?_
      refine o_ri (va_runV (As := []) (rest := []) ⟨hx, hb, hml, hown, hts⟩ (k_X5_thrown l D cI cR cS cL q (m_act mv 0 (m_anew (mv 1) y1 0))) (cwV 0 hts gL_law_X5_thrown rfl rfl rfl (by decide +kernel) ⟨Nat.le_of_ble_eq_true rfl, Nat.le_of_ble_eq_true rfl⟩) (o_v (o_pR hK hN (hP.sub (ws' := (wM q cI (m_act mv 0 (m_anew (mv 1) y1 0)))) [0, 1, 2, 3, 4] rfl)) (va_recv hK hP (ci := 5) (q0 := 0) rfl rfl)) rfl rfl hl.1 rfl (lv_room (Nat.le_of_ble_eq_true rfl)) dL_law_378 ⟨show cells + 0 + 0 ≤ 601024 by omega, show slots + 0 + 0 ≤ 7293034 by omega⟩) (fun r3 e3 => ?_)
      have e3 : r3 = nI 0 := e3.trans (congrArg nI (rfl : _ = 0))
      subst e3
      refine lv_iload hx hb dL_law_381 (lv_at hl 1 rfl) ?_
      refine o_icmp_eq (tgt := 388) hx hb dL_law_383 (by decide) (Nat.le_of_ble_eq_true rfl) (Nat.le_of_ble_eq_true rfl) (fun _ => ?_) (fun z => absurd rfl z)
      refine lv_iload hx hb dL_law_388 (lv_at hl 1 rfl) ?_
      refine o_if_ne (a := 0) (tgt := 405) hx hb dL_law_390 (by decide) (Nat.le_of_ble_eq_true rfl) (fun z => absurd rfl z) (fun _ => ?_)
      refine lv_aload_n hx hb dL_law_393 rfl (lv_at hl 6 rfl) ?_
      refine o_const (k := 0) hx hb dL_law_394 (by decide) ?_
      refine va_lald hx hb hK hP 5 3 rfl rfl (vp_in_nI (by decide) (by decide)) dL_law_395 ?_
      refine o_tl (congrArg u (nI_clamp (show 0 < 2 ^ 31 by decide))) ?_
      refine lv_iload hx hb dL_law_396 (lv_at hl 0 rfl) ?_
      refine lv_i2l (v := (nI (v (5 + 3 * y1) 0)).toInt64) hx hb dL_law_398 rfl ?_
      refine W.lcmp hx hb dL_law_399 ?_
      refine o_ti (z_cmp hu) ?_
      refine o_if_eq (a := 0) (tgt := 405) hx hb dL_law_400 (by decide) (Nat.le_of_ble_eq_true rfl) (fun _ => ?_) (fun z => absurd rfl z)
      refine lv_goto (tgt := 1310) hx hb dL_law_405 (by decide) ?_
      refine W.widen (k := cells + 1) (n := slots + 6) (by omega) (by omega) ?_
      exact K _ _ _ _ _ _ _ _ ⟨hP, hD, hS, g_up G1 (by omega)⟩ (z_drop hl)
    · skip
      have hh : 0 ≤ 1 := by decide
      have ec : mc_reader y1 = 1 := by unfold mc_reader; rw [if_neg hc1]
      refine lv_aload_n hx hb dL_law_324 rfl (lv_at hl 2 rfl) ?_
      refine lv_aload_n hx hb dL_law_325 rfl (lv_at hl 1 rfl) ?_
      refine lv_iload hx hb dL_law_326 (lv_at hl 0 rfl) ?_
      refine o_const (k := 1) hx hb dL_law_328 (by decide) ?_
      refine o_iadd (k := i + 1) hx hb dL_law_329 rfl ?_
      refine z_ld (y := y1) hx hb hX hS (show i + 1 < L by omega) ey1 dL_law_330 ?_
      refine lv_aload_n hx hb dL_law_331 rfl (lv_at hl 1 rfl) ?_
      refine lv_iload hx hb dL_law_332 (lv_at hl 0 rfl) ?_
      refine o_const (k := 2) hx hb dL_law_334 (by decide) ?_
      refine o_iadd (k := i + 2) hx hb dL_law_335 rfl ?_
      refine z_ld (y := y2) hx hb hX hS (show i + 2 < L by omega) ey2 dL_law_336 ?_
      refine o_if_eq (tgt := 344) hx hb dL_law_337 (by decide) hy2 (fun _ => ?_) (fun z => absurd hz z)
      refine o_const (k := 0) hx hb dL_law_344 (by decide) ?_
      refine lv_aload_n hx hb dL_law_345 rfl (lv_at hl 4 rfl) ?_
      refine o_xiT (wM q cI mv) (vx_runSX (As := [.ref (o 0), .int (nI y1), .int (nI 0), .ref a]) (rest := []) ⟨hx, hb, hml, hown, hts⟩ (l_reader_1 l D cI cR cS cL hfl H.size o x v (wV o cI cR V) B y1 0 a g (by first | assumption | omega) (by first | assumption | omega)) (vx_cwSW 4 hts gL_law_L_reader rfl rfl rfl (by decide +kernel) ⟨Nat.le_of_ble_eq_true rfl, Nat.le_of_ble_eq_true rfl⟩) (o_pF (W := [ol cL a 1 g] ++ (wO o cI cR cS x v (wV o cI cR V))) hK (hG.kept hS) (o_PT (pre := (wM q cI mv)) (ws := [ol cL a 1 g] ++ (wO o cI cR cS x v (wV o cI cR V))) hP) (o_DT (pre := (wM q cI mv)) (ws := [ol cL a 1 g] ++ (wO o cI cR cS x v (wV o cI cR V))) hD) (va_free hD hS hA _ (o_getT (wM q cI mv) ([ol cL a 1 g] ++ (wO o cI cR cS x v (wV o cI cR V)))))) rfl rfl hl.1 rfl (lv_room (Nat.le_of_ble_eq_true rfl)) dL_law_346 ⟨show cells + 1 ≤ 601024 by omega, show slots + 6 ≤ 7293034 by omega⟩) hP hD hS hA (fun _ => rfl) (fun r1 u H locs e1 hP8 hD8 hS => ?_)
      obtain ⟨er1, hu⟩ := e1
      have er1 : r1 = nI 1 := er1
      subst er1
      subst hu
      have hP := hP8
      have hD := hD8
      have hP : va_P D vwCl (z_W q o cI cR cS cL a u x v mv V) H := hP
      have hD : va_D (z_A s) (z_W q o cI cR cS cL a u x v mv V) := hD
      refine lv_istore (lv' := [(5, .int (nI 1)), (4, .int (nI i)), (0, .ref sb), (1, .ref (o 0)), (2, .ref (q 0)), (3, .ref a)]) hx hb dL_law_349 hl (by decide) rfl (fun ls hl => ?_)
      refine lv_aload_n hx hb dL_law_351 rfl (lv_at hl 4 rfl) ?_
      refine lv_aload_n hx hb dL_law_352 rfl (lv_at hl 2 rfl) ?_
      refine lv_iload hx hb dL_law_353 (lv_at hl 1 rfl) ?_
      refine o_const (k := 1) hx hb dL_law_355 (by decide) ?_
      refine o_iadd (k := i + 1) hx hb dL_law_356 rfl ?_
      refine z_ld (y := y1) hx hb hX hS (show i + 1 < L by omega) ey1 dL_law_357 ?_
      refine lv_aload_n hx hb dL_law_358 rfl (lv_at hl 2 rfl) ?_
      refine lv_iload hx hb dL_law_359 (lv_at hl 1 rfl) ?_
      refine o_const (k := 2) hx hb dL_law_361 (by decide) ?_
      refine o_iadd (k := i + 2) hx hb dL_law_362 rfl ?_
      refine z_ld (y := y2) hx hb hX hS (show i + 2 < L by omega) ey2 dL_law_363 ?_
      refine o_if_eq (tgt := 371) hx hb dL_law_364 (by decide) hy2 (fun _ => ?_) (fun z => absurd hz z)
      refine o_const (k := 0) hx hb dL_law_371 (by decide) ?_
      refine o_wi (va_runV (As := [.int (nI y1), .int (nI 0)]) (rest := []) ⟨hx, hb, hml, hown, hts⟩ (k_X5_reader l D cI cR cS cL H.size q mv B y1 0 (by first | assumption | omega) (by first | assumption | omega) (by first | assumption | omega) (by first | assumption | omega) (by first | assumption | omega)) (cwV 2 hts gL_law_X5_reader rfl rfl rfl (by decide +kernel) ⟨Nat.le_of_ble_eq_true rfl, Nat.le_of_ble_eq_true rfl⟩) (o_v (o_pB hK hN (hP.sub (ws' := (wM q cI mv)) [0, 1, 2, 3, 4] rfl) (hD.sub (ws' := (wM q cI mv)) [0, 1, 2, 3, 4] (by decide +kernel) rfl)) (va_recv hK hP (ci := 5) (q0 := 0) rfl rfl)) rfl rfl hl.1 rfl (lv_room (Nat.le_of_ble_eq_true rfl)) dL_law_372 ⟨show cells + 1 + 0 ≤ 601024 by omega, show slots + 6 + 0 ≤ 7293034 by omega⟩) hP hD hS hA [0, 1, 2, 3, 4] (by decide +kernel) rfl (fun _ => rfl) (fun r2 _ H locs e2 hP hD hS => ?_)
      have hP : va_P D vwCl (z_W q o cI cR cS cL a u x v (m_act mv (mc_reader y1) (m_anew (mv 1) y1 0)) V) H := hP
      have hD : va_D (z_A s) (z_W q o cI cR cS cL a u x v (m_act mv (mc_reader y1) (m_anew (mv 1) y1 0)) V) := hD
      rw [ec] at hP hD
      refine lv_istore (lv' := [(6, .int r2), (5, .int (nI 1)), (4, .int (nI i)), (0, .ref sb), (1, .ref (o 0)), (2, .ref (q 0)), (3, .ref a)]) hx hb dL_law_375 hl (by decide) rfl (fun ls hl => ?_)
      refine lv_aload_n hx hb dL_law_377 rfl (lv_at hl 5 rfl) ?_
      refine o_ri (va_runV (As := []) (rest := []) ⟨hx, hb, hml, hown, hts⟩ (k_X5_thrown l D cI cR cS cL q (m_act mv 1 (m_anew (mv 1) y1 0))) (cwV 0 hts gL_law_X5_thrown rfl rfl rfl (by decide +kernel) ⟨Nat.le_of_ble_eq_true rfl, Nat.le_of_ble_eq_true rfl⟩) (o_v (o_pR hK hN (hP.sub (ws' := (wM q cI (m_act mv 1 (m_anew (mv 1) y1 0)))) [0, 1, 2, 3, 4] rfl)) (va_recv hK hP (ci := 5) (q0 := 0) rfl rfl)) rfl rfl hl.1 rfl (lv_room (Nat.le_of_ble_eq_true rfl)) dL_law_378 ⟨show cells + 1 + 0 ≤ 601024 by omega, show slots + 6 + 0 ≤ 7293034 by omega⟩) (fun r3 e3 => ?_)
      have e3 : r3 = nI 1 := e3.trans (congrArg nI (rfl : _ = 1))
      subst e3
      refine lv_iload hx hb dL_law_381 (lv_at hl 1 rfl) ?_
      refine o_icmp_eq (tgt := 388) hx hb dL_law_383 (by decide) (Nat.le_of_ble_eq_true rfl) (Nat.le_of_ble_eq_true rfl) (fun _ => ?_) (fun z => absurd rfl z)
      refine lv_iload hx hb dL_law_388 (lv_at hl 1 rfl) ?_
      refine o_if_ne (a := 1) (tgt := 405) hx hb dL_law_390 (by decide) (Nat.le_of_ble_eq_true rfl) (fun _ => ?_) (fun z => absurd z (by decide))
      refine lv_goto (tgt := 1310) hx hb dL_law_405 (by decide) ?_
      refine W.widen (k := cells + 1) (n := slots + 6) (by omega) (by omega) ?_
      exact K _ _ _ _ _ _ _ _ ⟨hP, hD, hS, g_actf G (by omega) (by decide)⟩ (z_drop hl)
  · skip
    by_cases hc1 : y1 < 4
    · skip
      obtain ⟨hr, G1⟩ := g_reader (h := 1) G hc1 (by decide)
      have hh : 1 ≤ 1 := by decide
      have ec : mc_reader y1 = 0 := by unfold mc_reader; rw [if_pos hc1]
      refine lv_aload_n hx hb dL_law_324 rfl (lv_at hl 2 rfl) ?_
      refine lv_aload_n hx hb dL_law_325 rfl (lv_at hl 1 rfl) ?_
      refine lv_iload hx hb dL_law_326 (lv_at hl 0 rfl) ?_
      refine o_const (k := 1) hx hb dL_law_328 (by decide) ?_
      refine o_iadd (k := i + 1) hx hb dL_law_329 rfl ?_
      refine z_ld (y := y1) hx hb hX hS (show i + 1 < L by omega) ey1 dL_law_330 ?_
      refine lv_aload_n hx hb dL_law_331 rfl (lv_at hl 1 rfl) ?_
      refine lv_iload hx hb dL_law_332 (lv_at hl 0 rfl) ?_
      refine o_const (k := 2) hx hb dL_law_334 (by decide) ?_
      refine o_iadd (k := i + 2) hx hb dL_law_335 rfl ?_
      refine z_ld (y := y2) hx hb hX hS (show i + 2 < L by omega) ey2 dL_law_336 ?_
      refine o_if_eq (tgt := 344) hx hb dL_law_337 (by decide) hy2 (fun z => absurd z hz) (fun _ => ?_)
      refine o_const (k := 1) hx hb dL_law_340 (by decide) ?_
      refine lv_goto (tgt := 345) hx hb dL_law_341 (by decide) ?_
      refine lv_aload_n hx hb dL_law_345 rfl (lv_at hl 4 rfl) ?_
      refine o_xiT (wM q cI mv) (vx_runSX (As := [.ref (o 0), .int (nI y1), .int (nI 1), .ref a]) (rest := []) ⟨hx, hb, hml, hown, hts⟩ (l_reader_0 l D cI cR cS cL H.size o x v V B y1 1 a g (by first | assumption | omega) (by first | assumption | omega) (by first | assumption | omega) (by first | assumption | omega) (by first | assumption | omega) (by first | assumption | omega)) (vx_cwSW 4 hts gL_law_L_reader rfl rfl rfl (by decide +kernel) ⟨Nat.le_of_ble_eq_true rfl, Nat.le_of_ble_eq_true rfl⟩) (o_pF (W := [ol cL a 1 g] ++ (wO o cI cR cS x v (wV o cI cR V))) hK (hG.kept hS) (o_PT (pre := (wM q cI mv)) (ws := [ol cL a 1 g] ++ (wO o cI cR cS x v (wV o cI cR V))) hP) (o_DT (pre := (wM q cI mv)) (ws := [ol cL a 1 g] ++ (wO o cI cR cS x v (wV o cI cR V))) hD) (va_free hD hS hA _ (o_getT (wM q cI mv) ([ol cL a 1 g] ++ (wO o cI cR cS x v (wV o cI cR V)))))) rfl rfl hl.1 rfl (lv_room (Nat.le_of_ble_eq_true rfl)) dL_law_346 ⟨show cells + 0 ≤ 601024 by omega, show slots + 0 ≤ 7293034 by omega⟩) hP hD hS hA (fun _ => rfl) (fun r1 u H locs e1 hP8 hD8 hS => ?_)
      obtain ⟨er1, hu⟩ := e1
      have er1 : r1 = nI 0 := er1
      subst er1
      have hu : u 0 = (nI (v (5 + 3 * y1) 0)).toInt64 := hu
      have hP := hP8
      have hD := hD8
      have hP : va_P D vwCl (z_W q o cI cR cS cL a u (va_up x 0 (c_sv (x 0))) (va_up v (5 + 3 * y1) (r_anew (fun j => v (j + (5 + 3 * y1))) 1 0)) mv (c_put V ((x 0 3 + x 0 4) % 6) v)) H := hP
      have hD : va_D (z_A s) (z_W q o cI cR cS cL a u (va_up x 0 (c_sv (x 0))) (va_up v (5 + 3 * y1) (r_anew (fun j => v (j + (5 + 3 * y1))) 1 0)) mv (c_put V ((x 0 3 + x 0 4) % 6) v)) := hD
      refine lv_istore (lv' := [(5, .int (nI 0)), (4, .int (nI i)), (0, .ref sb), (1, .ref (o 0)), (2, .ref (q 0)), (3, .ref a)]) hx hb dL_law_349 hl (by decide) rfl (fun ls hl => ?_)
      refine lv_aload_n hx hb dL_law_351 rfl (lv_at hl 4 rfl) ?_
      refine lv_aload_n hx hb dL_law_352 rfl (lv_at hl 2 rfl) ?_
      refine lv_iload hx hb dL_law_353 (lv_at hl 1 rfl) ?_
      refine o_const (k := 1) hx hb dL_law_355 (by decide) ?_
      refine o_iadd (k := i + 1) hx hb dL_law_356 rfl ?_
      refine z_ld (y := y1) hx hb hX hS (show i + 1 < L by omega) ey1 dL_law_357 ?_
      refine lv_aload_n hx hb dL_law_358 rfl (lv_at hl 2 rfl) ?_
      refine lv_iload hx hb dL_law_359 (lv_at hl 1 rfl) ?_
      refine o_const (k := 2) hx hb dL_law_361 (by decide) ?_
      refine o_iadd (k := i + 2) hx hb dL_law_362 rfl ?_
      refine z_ld (y := y2) hx hb hX hS (show i + 2 < L by omega) ey2 dL_law_363 ?_
      refine o_if_eq (tgt := 371) hx hb dL_law_364 (by decide) hy2 (fun z => absurd z hz) (fun _ => ?_)
      refine o_const (k := 1) hx hb dL_law_367 (by decide) ?_
      refine lv_goto (tgt := 372) hx hb dL_law_368 (by decide) ?_
      refine o_wi (va_runV (As := [.int (nI y1), .int (nI 1)]) (rest := []) ⟨hx, hb, hml, hown, hts⟩ (k_X5_reader l D cI cR cS cL H.size q mv B y1 1 (by first | assumption | omega) (by first | assumption | omega) (by first | assumption | omega) (by first | assumption | omega) (by first | assumption | omega)) (cwV 2 hts gL_law_X5_reader rfl rfl rfl (by decide +kernel) ⟨Nat.le_of_ble_eq_true rfl, Nat.le_of_ble_eq_true rfl⟩) (o_v (o_pB hK hN (hP.sub (ws' := (wM q cI mv)) [0, 1, 2, 3, 4] rfl) (hD.sub (ws' := (wM q cI mv)) [0, 1, 2, 3, 4] (by decide +kernel) rfl)) (va_recv hK hP (ci := 5) (q0 := 0) rfl rfl)) rfl rfl hl.1 rfl (lv_room (Nat.le_of_ble_eq_true rfl)) dL_law_372 ⟨show cells + 0 + 0 ≤ 601024 by omega, show slots + 0 + 0 ≤ 7293034 by omega⟩) hP hD hS hA [0, 1, 2, 3, 4] (by decide +kernel) rfl (fun _ => rfl) (fun r2 _ H locs e2 hP hD hS => ?_)
      have hP : va_P D vwCl (z_W q o cI cR cS cL a u (va_up x 0 (c_sv (x 0))) (va_up v (5 + 3 * y1) (r_anew (fun j => v (j + (5 + 3 * y1))) 1 0)) (m_act mv (mc_reader y1) (m_anew (mv 1) y1 1)) (c_put V ((x 0 3 + x 0 4) % 6) v)) H := hP
      have hD : va_D (z_A s) (z_W q o cI cR cS cL a u (va_up x 0 (c_sv (x 0))) (va_up v (5 + 3 * y1) (r_anew (fun j => v (j + (5 + 3 * y1))) 1 0)) (m_act mv (mc_reader y1) (m_anew (mv 1) y1 1)) (c_put V ((x 0 3 + x 0 4) % 6) v)) := hD
      rw [ec] at hP hD
      have e2 : r2 = nI (if (mc_reader y1) = 0 then mv 1 (15 + 17 * y1) else 0) := e2
      have er : (if (mc_reader y1) = 0 then mv 1 (15 + 17 * y1) else 0) = (v (5 + 3 * y1) 0) := by rw [ec, if_pos rfl]; exact hr.symm
      rw [er] at e2
      subst e2
      refine lv_istore (lv' := [(6, .int (nI (v (5 + 3 * y1) 0))), (5, .int (nI 0)), (4, .int (nI i)), (0, .ref sb), (1, .ref (o 0)), (2, .ref (q 0)), (3, .ref a)]) hx hb dL_law_375 hl (by decide) rfl (fun ls hl => ?_)
      refine lv_aload_n hx hb dL_law_377 rfl (lv_at hl 5 rfl) ?_
      refine o_ri (va_runV (As := []) (rest := []) ⟨hx, hb, hml, hown, hts⟩ (k_X5_thrown l D cI cR cS cL q (m_act mv 0 (m_anew (mv 1) y1 1))) (cwV 0 hts gL_law_X5_thrown rfl rfl rfl (by decide +kernel) ⟨Nat.le_of_ble_eq_true rfl, Nat.le_of_ble_eq_true rfl⟩) (o_v (o_pR hK hN (hP.sub (ws' := (wM q cI (m_act mv 0 (m_anew (mv 1) y1 1)))) [0, 1, 2, 3, 4] rfl)) (va_recv hK hP (ci := 5) (q0 := 0) rfl rfl)) rfl rfl hl.1 rfl (lv_room (Nat.le_of_ble_eq_true rfl)) dL_law_378 ⟨show cells + 0 + 0 ≤ 601024 by omega, show slots + 0 + 0 ≤ 7293034 by omega⟩) (fun r3 e3 => ?_)
      have e3 : r3 = nI 0 := e3.trans (congrArg nI (rfl : _ = 0))
      subst e3
      refine lv_iload hx hb dL_law_381 (lv_at hl 1 rfl) ?_
      refine o_icmp_eq (tgt := 388) hx hb dL_law_383 (by decide) (Nat.le_of_ble_eq_true rfl) (Nat.le_of_ble_eq_true rfl) (fun _ => ?_) (fun z => absurd rfl z)
      refine lv_iload hx hb dL_law_388 (lv_at hl 1 rfl) ?_
      refine o_if_ne (a := 0) (tgt := 405) hx hb dL_law_390 (by decide) (Nat.le_of_ble_eq_true rfl) (fun z => absurd rfl z) (fun _ => ?_)
      refine lv_aload_n hx hb dL_law_393 rfl (lv_at hl 6 rfl) ?_
      refine o_const (k := 0) hx hb dL_law_394 (by decide) ?_
      refine va_lald hx hb hK hP 5 3 rfl rfl (vp_in_nI (by decide) (by decide)) dL_law_395 ?_
      refine o_tl (congrArg u (nI_clamp (show 0 < 2 ^ 31 by decide))) ?_
      refine lv_iload hx hb dL_law_396 (lv_at hl 0 rfl) ?_
      refine lv_i2l (v := (nI (v (5 + 3 * y1) 0)).toInt64) hx hb dL_law_398 rfl ?_
      refine W.lcmp hx hb dL_law_399 ?_
      refine o_ti (z_cmp hu) ?_
      refine o_if_eq (a := 0) (tgt := 405) hx hb dL_law_400 (by decide) (Nat.le_of_ble_eq_true rfl) (fun _ => ?_) (fun z => absurd rfl z)
      refine lv_goto (tgt := 1310) hx hb dL_law_405 (by decide) ?_
      refine W.widen (k := cells + 1) (n := slots + 6) (by omega) (by omega) ?_
      exact K _ _ _ _ _ _ _ _ ⟨hP, hD, hS, g_up G1 (by omega)⟩ (z_drop hl)
    · skip
      have hh : 1 ≤ 1 := by decide
      have ec : mc_reader y1 = 1 := by unfold mc_reader; rw [if_neg hc1]
      refine lv_aload_n hx hb dL_law_324 rfl (lv_at hl 2 rfl) ?_
      refine lv_aload_n hx hb dL_law_325 rfl (lv_at hl 1 rfl) ?_
      refine lv_iload hx hb dL_law_326 (lv_at hl 0 rfl) ?_
      refine o_const (k := 1) hx hb dL_law_328 (by decide) ?_
      refine o_iadd (k := i + 1) hx hb dL_law_329 rfl ?_
      refine z_ld (y := y1) hx hb hX hS (show i + 1 < L by omega) ey1 dL_law_330 ?_
      refine lv_aload_n hx hb dL_law_331 rfl (lv_at hl 1 rfl) ?_
      refine lv_iload hx hb dL_law_332 (lv_at hl 0 rfl) ?_
      refine o_const (k := 2) hx hb dL_law_334 (by decide) ?_
      refine o_iadd (k := i + 2) hx hb dL_law_335 rfl ?_
      refine z_ld (y := y2) hx hb hX hS (show i + 2 < L by omega) ey2 dL_law_336 ?_
      refine o_if_eq (tgt := 344) hx hb dL_law_337 (by decide) hy2 (fun z => absurd z hz) (fun _ => ?_)
      refine o_const (k := 1) hx hb dL_law_340 (by decide) ?_
      refine lv_goto (tgt := 345) hx hb dL_law_341 (by decide) ?_
      refine lv_aload_n hx hb dL_law_345 rfl (lv_at hl 4 rfl) ?_
      refine o_xiT (wM q cI mv) (vx_runSX (As := [.ref (o 0), .int (nI y1), .int (nI 1), .ref a]) (rest := []) ⟨hx, hb, hml, hown, hts⟩ (l_reader_1 l D cI cR cS cL hfl H.size o x v (wV o cI cR V) B y1 1 a g (by first | assumption | omega) (by first | assumption | omega)) (vx_cwSW 4 hts gL_law_L_reader rfl rfl rfl (by decide +kernel) ⟨Nat.le_of_ble_eq_true rfl, Nat.le_of_ble_eq_true rfl⟩) (o_pF (W := [ol cL a 1 g] ++ (wO o cI cR cS x v (wV o cI cR V))) hK (hG.kept hS) (o_PT (pre := (wM q cI mv)) (ws := [ol cL a 1 g] ++ (wO o cI cR cS x v (wV o cI cR V))) hP) (o_DT (pre := (wM q cI mv)) (ws := [ol cL a 1 g] ++ (wO o cI cR cS x v (wV o cI cR V))) hD) (va_free hD hS hA _ (o_getT (wM q cI mv) ([ol cL a 1 g] ++ (wO o cI cR cS x v (wV o cI cR V)))))) rfl rfl hl.1 rfl (lv_room (Nat.le_of_ble_eq_true rfl)) dL_law_346 ⟨show cells + 1 ≤ 601024 by omega, show slots + 6 ≤ 7293034 by omega⟩) hP hD hS hA (fun _ => rfl) (fun r1 u H locs e1 hP8 hD8 hS => ?_)
      obtain ⟨er1, hu⟩ := e1
      have er1 : r1 = nI 1 := er1
      subst er1
      subst hu
      have hP := hP8
      have hD := hD8
      have hP : va_P D vwCl (z_W q o cI cR cS cL a u x v mv V) H := hP
      have hD : va_D (z_A s) (z_W q o cI cR cS cL a u x v mv V) := hD
      refine lv_istore (lv' := [(5, .int (nI 1)), (4, .int (nI i)), (0, .ref sb), (1, .ref (o 0)), (2, .ref (q 0)), (3, .ref a)]) hx hb dL_law_349 hl (by decide) rfl (fun ls hl => ?_)
      refine lv_aload_n hx hb dL_law_351 rfl (lv_at hl 4 rfl) ?_
      refine lv_aload_n hx hb dL_law_352 rfl (lv_at hl 2 rfl) ?_
      refine lv_iload hx hb dL_law_353 (lv_at hl 1 rfl) ?_
      refine o_const (k := 1) hx hb dL_law_355 (by decide) ?_
      refine o_iadd (k := i + 1) hx hb dL_law_356 rfl ?_
      refine z_ld (y := y1) hx hb hX hS (show i + 1 < L by omega) ey1 dL_law_357 ?_
      refine lv_aload_n hx hb dL_law_358 rfl (lv_at hl 2 rfl) ?_
      refine lv_iload hx hb dL_law_359 (lv_at hl 1 rfl) ?_
      refine o_const (k := 2) hx hb dL_law_361 (by decide) ?_
      refine o_iadd (k := i + 2) hx hb dL_law_362 rfl ?_
      refine z_ld (y := y2) hx hb hX hS (show i + 2 < L by omega) ey2 dL_law_363 ?_
      refine o_if_eq (tgt := 371) hx hb dL_law_364 (by decide) hy2 (fun z => absurd z hz) (fun _ => ?_)
      refine o_const (k := 1) hx hb dL_law_367 (by decide) ?_
      refine lv_goto (tgt := 372) hx hb dL_law_368 (by decide) ?_
      refine o_wi (va_runV (As := [.int (nI y1), .int (nI 1)]) (rest := []) ⟨hx, hb, hml, hown, hts⟩ (k_X5_reader l D cI cR cS cL H.size q mv B y1 1 (by first | assumption | omega) (by first | assumption | omega) (by first | assumption | omega) (by first | assumption | omega) (by first | assumption | omega)) (cwV 2 hts gL_law_X5_reader rfl rfl rfl (by decide +kernel) ⟨Nat.le_of_ble_eq_true rfl, Nat.le_of_ble_eq_true rfl⟩) (o_v (o_pB hK hN (hP.sub (ws' := (wM q cI mv)) [0, 1, 2, 3, 4] rfl) (hD.sub (ws' := (wM q cI mv)) [0, 1, 2, 3, 4] (by decide +kernel) rfl)) (va_recv hK hP (ci := 5) (q0 := 0) rfl rfl)) rfl rfl hl.1 rfl (lv_room (Nat.le_of_ble_eq_true rfl)) dL_law_372 ⟨show cells + 1 + 0 ≤ 601024 by omega, show slots + 6 + 0 ≤ 7293034 by omega⟩) hP hD hS hA [0, 1, 2, 3, 4] (by decide +kernel) rfl (fun _ => rfl) (fun r2 _ H locs e2 hP hD hS => ?_)
      have hP : va_P D vwCl (z_W q o cI cR cS cL a u x v (m_act mv (mc_reader y1) (m_anew (mv 1) y1 1)) V) H := hP
      have hD : va_D (z_A s) (z_W q o cI cR cS cL a u x v (m_act mv (mc_reader y1) (m_anew (mv 1) y1 1)) V) := hD
      rw [ec] at hP hD
      refine lv_istore (lv' := [(6, .int r2), (5, .int (nI 1)), (4, .int (nI i)), (0, .ref sb), (1, .ref (o 0)), (2, .ref (q 0)), (3, .ref a)]) hx hb dL_law_375 hl (by decide) rfl (fun ls hl => ?_)
      refine lv_aload_n hx hb dL_law_377 rfl (lv_at hl 5 rfl) ?_
      refine o_ri (va_runV (As := []) (rest := []) ⟨hx, hb, hml, hown, hts⟩ (k_X5_thrown l D cI cR cS cL q (m_act mv 1 (m_anew (mv 1) y1 1))) (cwV 0 hts gL_law_X5_thrown rfl rfl rfl (by decide +kernel) ⟨Nat.le_of_ble_eq_true rfl, Nat.le_of_ble_eq_true rfl⟩) (o_v (o_pR hK hN (hP.sub (ws' := (wM q cI (m_act mv 1 (m_anew (mv 1) y1 1)))) [0, 1, 2, 3, 4] rfl)) (va_recv hK hP (ci := 5) (q0 := 0) rfl rfl)) rfl rfl hl.1 rfl (lv_room (Nat.le_of_ble_eq_true rfl)) dL_law_378 ⟨show cells + 1 + 0 ≤ 601024 by omega, show slots + 6 + 0 ≤ 7293034 by omega⟩) (fun r3 e3 => ?_)
      have e3 : r3 = nI 1 := e3.trans (congrArg nI (rfl : _ = 1))
      subst e3
      refine lv_iload hx hb dL_law_381 (lv_at hl 1 rfl) ?_
      refine o_icmp_eq (tgt := 388) hx hb dL_law_383 (by decide) (Nat.le_of_ble_eq_true rfl) (Nat.le_of_ble_eq_true rfl) (fun _ => ?_) (fun z => absurd rfl z)
      refine lv_iload hx hb dL_law_388 (lv_at hl 1 rfl) ?_
      refine o_if_ne (a := 1) (tgt := 405) hx hb dL_law_390 (by decide) (Nat.le_of_ble_eq_true rfl) (fun _ => ?_) (fun z => absurd z (by decide))
      refine lv_goto (tgt := 1310) hx hb dL_law_405 (by decide) ?_
      refine W.widen (k := cells + 1) (n := slots + 6) (by omega) (by omega) ?_
      exact K _ _ _ _ _ _ _ _ ⟨hP, hD, hS, g_actf G (by omega) (by decide)⟩ (z_drop hl)
