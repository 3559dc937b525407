set_option maxHeartbeats 4000000 in
set_option maxRecDepth 100000 in
theorem z_busy {p : Program} {l : Launch} {e : Env} {s : State} {m : MethodId} {args : Array Value} {below : List Frame} {meth : Method} {c : Code} {Q : State → Prop} {D : va_G} {cI cR cS cL : ClassId} {sb L : Nat} {xs : Nat → Int32} {q o : Nat → Nat} {a i B cells slots : Nat} {H : Heap} {locs : List Loc} {ls : Array Slot} {x v mv : Nat → Nat → Nat} {V : Nat → Nat → Nat → Nat} {g : Nat → Int64} (C : z_C p l s m args c D cI cR cS cL sb L xs) (h : z_S s D q o cI cR cS cL a g x v mv V B H locs) (hl : lv_has ls 9 (z_L i sb a o q)) (hi : i + 3 ≤ L) (hB : B < 2 ^ 27) (hc : cells + 1 ≤ 601024) (hsl : slots + 6 ≤ 7293034) (K : z_N p l e s m args below meth c Q D cI cR cS cL sb q o a i (B + 60) (cells + 1) (slots + 6)) : W p l e room_1 s m args below meth c H locs cells slots Q (F0 m 1242 ls []) := by
  obtain ⟨hx, hb, hml, hown, hts, hK, hfl, hX, hG⟩ := C
  obtain ⟨hP, hD, hS, G⟩ := h
  obtain ⟨hR, hSI, hI, -, -⟩ := id G
  obtain ⟨⟨gx0, gx1, gx2⟩, ⟨gx3, gx4, gx5⟩, hx1, hm3, hVI⟩ := g_x G
  have hN := hG.1
  have hA : ∀ q : Nat, s.heap.size ≤ q → z_A s q := fun _ h => h
  have hB28 : B < 2 ^ 28 := by omega
  have hs6 : mv 0 0 ≤ 6 := by omega
  have h60 : mv 0 1 ≤ 60 := by omega
  have hbl : b_inl (v 3) < 2 ^ 32 := by have hr := p_inl hR hI; have h4 := hI.2.1.1; rw [hr]; split <;> omega
  refine lv_aload_n hx hb dL_law_1242 rfl (lv_at hl 2 rfl) ?_
  refine o_ri (va_runV (As := []) (rest := []) ⟨hx, hb, hml, hown, hts⟩ (k_X4_busy l D cI cR cS cL o x v (wV o cI cR V) B (by first | assumption | omega) (by first | assumption | omega)) (cwV 0 hts gL_law_X4_busy rfl rfl rfl (by decide +kernel) ⟨Nat.le_of_ble_eq_true rfl, Nat.le_of_ble_eq_true rfl⟩) (o_v (o_pR hK hN (o_PT (pre := [ol cL a 1 g]) (ws := (wO o cI cR cS x v (wV o cI cR V))) (o_PT (pre := (wM q cI mv)) (ws := [ol cL a 1 g] ++ (wO o cI cR cS x v (wV o cI cR V))) hP))) (va_recv hK hP (ci := 4) (q0 := 6) rfl rfl)) rfl rfl hl.1 rfl (lv_room (Nat.le_of_ble_eq_true rfl)) dL_law_1243 ⟨show cells + 0 ≤ 601024 by omega, show slots + 0 ≤ 7293034 by omega⟩) (fun r1 e1 => ?_)
  subst e1
  refine lv_aload_n hx hb dL_law_1246 rfl (lv_at hl 3 rfl) ?_
  refine o_wi (va_runV (As := []) (rest := [.int (nI (b_inl (v 3)))]) ⟨hx, hb, hml, hown, hts⟩ (k_X5_busy l D cI cR cS cL H.size q mv B (by first | assumption | omega) (by first | assumption | omega)) (cwV 0 hts gL_law_X5_busy rfl rfl rfl (by decide +kernel) ⟨Nat.le_of_ble_eq_true rfl, Nat.le_of_ble_eq_true rfl⟩) (o_v (o_pB hK hN (hP.sub (ws' := (wM q cI mv)) [0, 1, 2, 3, 4] rfl) (hD.sub (ws' := (wM q cI mv)) [0, 1, 2, 3, 4] (by decide +kernel) rfl)) (va_recv hK hP (ci := 5) (q0 := 0) rfl rfl)) rfl rfl hl.1 rfl (lv_room (Nat.le_of_ble_eq_true rfl)) dL_law_1247 ⟨show cells + 0 ≤ 601024 by omega, show slots + 0 ≤ 7293034 by omega⟩) hP hD hS hA [0, 1, 2, 3, 4] (by decide +kernel) rfl (fun _ => rfl) (fun r2 _ H locs e2 hP hD hS => ?_)
  have hP : va_P D vwCl (z_W q o cI cR cS cL a g x v (va_up mv 0 (va_up (mv 0) 2 0)) V) H := hP
  have hD : va_D (z_A s) (z_W q o cI cR cS cL a g x v (va_up mv 0 (va_up (mv 0) 2 0)) V) := hD
  have e2 : r2 = nI (if mv 1 0 % 2 = 1 then 1 + mv 1 4 else 0) := e2
  have er : (if mv 1 0 % 2 = 1 then 1 + mv 1 4 else 0) = (b_inl (v 3)) := (p_inl hR hI).symm
  rw [er] at e2
  subst e2
  refine o_icmp_eq (tgt := 1310) hx hb dL_law_1250 (by decide) (hbl) (hbl) (fun _ => ?_) (fun z => absurd rfl z)
  refine W.widen (k := cells + 1) (n := slots + 6) (by omega) (by omega) ?_
  exact K _ _ _ _ _ _ _ _ ⟨hP, hD, hS, g_thr G (by omega) 0⟩ hl
set_option maxHeartbeats 4000000 in
set_option maxRecDepth 100000 in
theorem z_wellShare {p : Program} {l : Launch} {e : Env} {s : State} {m : MethodId} {args : Array Value} {below : List Frame} {meth : Method} {c : Code} {Q : State → Prop} {D : va_G} {cI cR cS cL : ClassId} {sb L : Nat} {xs : Nat → Int32} {q o : Nat → Nat} {a i B cells slots : Nat} {H : Heap} {locs : List Loc} {ls : Array Slot} {x v mv : Nat → Nat → Nat} {V : Nat → Nat → Nat → Nat} {g : Nat → Int64} (C : z_C p l s m args c D cI cR cS cL sb L xs) (h : z_S s D q o cI cR cS cL a g x v mv V B H locs) (hl : lv_has ls 9 (z_L i sb a o q)) (hi : i + 3 ≤ L) (hB : B < 2 ^ 27) (hc : cells + 1 ≤ 601024) (hsl : slots + 6 ≤ 7293034) (K : z_N p l e s m args below meth c Q D cI cR cS cL sb q o a i (B + 60) (cells + 1) (slots + 6)) : W p l e room_1 s m args below meth c H locs cells slots Q (F0 m 1255 ls []) := by
  obtain ⟨hx, hb, hml, hown, hts, hK, hfl, hX, hG⟩ := C
  obtain ⟨hP, hD, hS, G⟩ := h
  obtain ⟨hR, hSI, hI, -, -⟩ := id G
  obtain ⟨⟨gx0, gx1, gx2⟩, ⟨gx3, gx4, gx5⟩, hx1, hm3, hVI⟩ := g_x G
  have hN := hG.1
  have hA : ∀ q : Nat, s.heap.size ≤ q → z_A s q := fun _ h => h
  have hB28 : B < 2 ^ 28 := by omega
  have hs6 : mv 0 0 ≤ 6 := by omega
  have h60 : mv 0 1 ≤ 60 := by omega
  have hsh := p_share hR hI
  have hdn : vf_n64 (c_share v) := by rw [hsh]; exact m_share_n hI hB28
  refine lv_aload_n hx hb dL_law_1255 rfl (lv_at hl 2 rfl) ?_
  refine o_rd (va_runV (As := []) (rest := []) ⟨hx, hb, hml, hown, hts⟩ (k_X4_wellShare l D cI cR cS cL o x v (wV o cI cR V) B (by first | assumption | omega) (by first | assumption | omega)) (cwV 0 hts gL_law_X4_wellShare rfl rfl rfl (by decide +kernel) ⟨Nat.le_of_ble_eq_true rfl, Nat.le_of_ble_eq_true rfl⟩) (o_v (o_pR hK hN (o_PT (pre := [ol cL a 1 g]) (ws := (wO o cI cR cS x v (wV o cI cR V))) (o_PT (pre := (wM q cI mv)) (ws := [ol cL a 1 g] ++ (wO o cI cR cS x v (wV o cI cR V))) hP))) (va_recv hK hP (ci := 4) (q0 := 6) rfl rfl)) rfl rfl hl.1 rfl (lv_room (Nat.le_of_ble_eq_true rfl)) dL_law_1256 ⟨show cells + 0 ≤ 601024 by omega, show slots + 0 ≤ 7293034 by omega⟩) (fun r1 e1 => ?_)
  subst e1
  refine lv_dstore (lv' := [(5, .double (c_share v)), (4, .int (nI i)), (0, .ref sb), (1, .ref (o 0)), (2, .ref (q 0)), (3, .ref a)]) hx hb dL_law_1259 hl (by decide) rfl (fun ls hl => ?_)
  refine lv_aload_n hx hb dL_law_1261 rfl (lv_at hl 4 rfl) ?_
  refine o_wd (va_runV (As := []) (rest := []) ⟨hx, hb, hml, hown, hts⟩ (k_X5_wellShare l D cI cR cS cL H.size q mv B (by first | assumption | omega) (by first | assumption | omega)) (cwV 0 hts gL_law_X5_wellShare rfl rfl rfl (by decide +kernel) ⟨Nat.le_of_ble_eq_true rfl, Nat.le_of_ble_eq_true rfl⟩) (o_v (o_pB hK hN (hP.sub (ws' := (wM q cI mv)) [0, 1, 2, 3, 4] rfl) (hD.sub (ws' := (wM q cI mv)) [0, 1, 2, 3, 4] (by decide +kernel) rfl)) (va_recv hK hP (ci := 5) (q0 := 0) rfl rfl)) rfl rfl hl.1 rfl (lv_room (Nat.le_of_ble_eq_true rfl)) dL_law_1262 ⟨show cells + 0 ≤ 601024 by omega, show slots + 0 ≤ 7293034 by omega⟩) hP hD hS hA [0, 1, 2, 3, 4] (by decide +kernel) rfl (fun _ => rfl) (fun r2 _ H locs e2 hP hD hS => ?_)
  have hP : va_P D vwCl (z_W q o cI cR cS cL a g x v (va_up mv 0 (va_up (mv 0) 2 0)) V) H := hP
  have hD : va_D (z_A s) (z_W q o cI cR cS cL a g x v (va_up mv 0 (va_up (mv 0) 2 0)) V) := hD
  have e2 : r2 = (m_share (mv 1)) := e2
  have er : (m_share (mv 1)) = (c_share v) := hsh.symm
  rw [er] at e2
  subst e2
  refine lv_dstore (lv' := [(7, .double (c_share v)), (5, .double (c_share v)), (4, .int (nI i)), (0, .ref sb), (1, .ref (o 0)), (2, .ref (q 0)), (3, .ref a)]) hx hb dL_law_1265 hl (by decide) rfl (fun ls hl => ?_)
  refine lv_dload hx hb dL_law_1267 (lv_at hl 1 rfl) ?_
  refine lv_dload hx hb dL_law_1269 (lv_at hl 0 rfl) ?_
  refine lv_dcmp hx hb dL_law_1271 ?_
  refine o_ti (y := nI 0) (o_dcmp_self hdn) ?_
  refine o_if_eq (a := 0) (tgt := 1293) hx hb dL_law_1272 (by decide) (Nat.le_of_ble_eq_true rfl) (fun _ => ?_) (fun z => absurd rfl z)
  refine lv_goto (tgt := 1310) hx hb dL_law_1293 (by decide) ?_
  refine W.widen (k := cells + 1) (n := slots + 6) (by omega) (by omega) ?_
  exact K _ _ _ _ _ _ _ _ ⟨hP, hD, hS, g_thr G (by omega) 0⟩ (z_drop hl)
set_option maxHeartbeats 4000000 in
set_option maxRecDepth 100000 in
theorem z_digest {p : Program} {l : Launch} {e : Env} {s : State} {m : MethodId} {args : Array Value} {below : List Frame} {meth : Method} {c : Code} {Q : State → Prop} {D : va_G} {cI cR cS cL : ClassId} {sb L : Nat} {xs : Nat → Int32} {q o : Nat → Nat} {a i B cells slots : Nat} {H : Heap} {locs : List Loc} {ls : Array Slot} {x v mv : Nat → Nat → Nat} {V : Nat → Nat → Nat → Nat} {g : Nat → Int64} (C : z_C p l s m args c D cI cR cS cL sb L xs) (h : z_S s D q o cI cR cS cL a g x v mv V B H locs) (hl : lv_has ls 9 (z_L i sb a o q)) (hi : i + 3 ≤ L) (hB : B < 2 ^ 27) (hc : cells + 1 ≤ 601024) (hsl : slots + 6 ≤ 7293034) (K : z_N p l e s m args below meth c Q D cI cR cS cL sb q o a i (B + 60) (cells + 1) (slots + 6)) : W p l e room_1 s m args below meth c H locs cells slots Q (F0 m 1296 ls []) := by
  obtain ⟨hx, hb, hml, hown, hts, hK, hfl, hX, hG⟩ := C
  obtain ⟨hP, hD, hS, G⟩ := h
  obtain ⟨hR, hSI, hI, -, -⟩ := id G
  obtain ⟨⟨gx0, gx1, gx2⟩, ⟨gx3, gx4, gx5⟩, hx1, hm3, hVI⟩ := g_x G
  have hN := hG.1
  have hA : ∀ q : Nat, s.heap.size ≤ q → z_A s q := fun _ h => h
  have hB28 : B < 2 ^ 28 := by omega
  have hs6 : mv 0 0 ≤ 6 := by omega
  have h60 : mv 0 1 ≤ 60 := by omega
  obtain ⟨nS, hn, hr⟩ := c_share_n hSI hB28
  refine lv_aload_n hx hb dL_law_1296 rfl (lv_at hl 2 rfl) ?_
  have hP9 : va_P D vwCl (((wM q cI mv) ++ [ol cL a 1 g]) ++ (wO o cI cR cS x v (wV o cI cR V))) H := by rw [List.append_assoc]; exact hP
  have hD9 : va_D (z_A s) (((wM q cI mv) ++ [ol cL a 1 g]) ++ (wO o cI cR cS x v (wV o cI cR V))) := by rw [List.append_assoc]; exact hD
  refine o_wlT ((wM q cI mv) ++ [ol cL a 1 g]) (va_runV (As := []) (rest := []) ⟨hx, hb, hml, hown, hts⟩ (k_X4_digest l D cI cR cS cL H.size o x v (wV o cI cR V) B nS (by first | assumption | omega) (by first | assumption | omega) (by first | assumption | omega) (by first | assumption | omega) (by first | assumption | omega) (by first | assumption | omega)) (cwV 0 hts gL_law_X4_digest rfl rfl rfl (by decide +kernel) ⟨Nat.le_of_ble_eq_true rfl, Nat.le_of_ble_eq_true rfl⟩) (o_v (o_pB hK hN (o_PT (pre := ((wM q cI mv) ++ [ol cL a 1 g])) (ws := (wO o cI cR cS x v (wV o cI cR V))) hP9) (o_DT (pre := ((wM q cI mv) ++ [ol cL a 1 g])) (ws := (wO o cI cR cS x v (wV o cI cR V))) hD9)) (va_recv hK hP (ci := 4) (q0 := 6) rfl rfl)) rfl rfl hl.1 rfl (lv_room (Nat.le_of_ble_eq_true rfl)) dL_law_1297 ⟨show cells + 0 ≤ 601024 by omega, show slots + 0 ≤ 7293034 by omega⟩) hP9 hD9 hS hA (fun _ => rfl) (fun r1 _ H locs e1 hP hD hS => ?_)
  have e1 : r1 = (c_dig x v) := e1
  subst e1
  rw [List.append_assoc] at hP hD
  have hP : va_P D vwCl (z_W q o cI cR cS cL a g (va_up x 2 (c_wts v (x 2) 4)) v mv V) H := hP
  have hD : va_D (z_A s) (z_W q o cI cR cS cL a g (va_up x 2 (c_wts v (x 2) 4)) v mv V) := hD
  refine lv_aload_n hx hb dL_law_1300 rfl (lv_at hl 3 rfl) ?_
  refine o_wl (va_runV (As := []) (rest := [.long (c_dig x v)]) ⟨hx, hb, hml, hown, hts⟩ (k_X5_digest l D cI cR cS cL H.size q mv B (by first | assumption | omega) (by first | assumption | omega) (by first | assumption | omega)) (cwV 0 hts gL_law_X5_digest rfl rfl rfl (by decide +kernel) ⟨Nat.le_of_ble_eq_true rfl, Nat.le_of_ble_eq_true rfl⟩) (o_v (o_pB hK hN (hP.sub (ws' := (wM q cI mv)) [0, 1, 2, 3, 4] rfl) (hD.sub (ws' := (wM q cI mv)) [0, 1, 2, 3, 4] (by decide +kernel) rfl)) (va_recv hK hP (ci := 5) (q0 := 0) rfl rfl)) rfl rfl hl.1 rfl (lv_room (Nat.le_of_ble_eq_true rfl)) dL_law_1301 ⟨show cells + 0 ≤ 601024 by omega, show slots + 0 ≤ 7293034 by omega⟩) hP hD hS hA [0, 1, 2, 3, 4] (by decide +kernel) rfl (fun _ => rfl) (fun r2 _ H locs e2 hP hD hS => ?_)
  have hP : va_P D vwCl (z_W q o cI cR cS cL a g (va_up x 2 (c_wts v (x 2) 4)) v (va_up mv 0 (va_up (mv 0) 2 0)) V) H := hP
  have hD : va_D (z_A s) (z_W q o cI cR cS cL a g (va_up x 2 (c_wts v (x 2) 4)) v (va_up mv 0 (va_up (mv 0) 2 0)) V) := hD
  have e2 : r2 = (m_dig mv) := e2
  have er : (m_dig mv) = (c_dig x v) := (z_dig G hB28).symm
  rw [er] at e2
  subst e2
  refine W.lcmp hx hb dL_law_1304 ?_
  refine o_ti (z_cmp rfl) ?_
  refine o_if_eq (a := 0) (tgt := 1310) hx hb dL_law_1305 (by decide) (Nat.le_of_ble_eq_true rfl) (fun _ => ?_) (fun z => absurd rfl z)
  refine W.widen (k := cells + 1) (n := slots + 6) (by omega) (by omega) ?_
  exact K _ _ _ _ _ _ _ _ ⟨hP, hD, hS, g_thr2 G (by omega) 0 _⟩ hl
