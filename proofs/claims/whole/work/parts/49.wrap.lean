set_option maxHeartbeats 4000000 in
set_option maxRecDepth 100000 in
theorem l_come_0 (l : Launch) (D : va_G) (cI cR cS cL : ClassId) (sz : Nat) (o : Nat → Nat) (x : Nat → Nat → Nat) (v : Nat → Nat → Nat) (V : Nat → Nat → Nat → Nat) (b : Nat) (c : Nat) (a : Nat) (g : Nat → Int64) (hSI : s_I b v) (hb : b < 2 ^ 28) (h3 : x 0 3 < 6) (h4 : x 0 4 ≤ 6) (hc : c < 3) (ha : v 3 c = 4294967295) : vx_Met l yL_come wsL_come ({ frames := 5, cells := 0, slots := 0, locals := 102 }) (va_Pc [.ref (o 0), .int (nI c), .ref a] (o_F D (o_T cI cR cS cL) ([ol cL a 1 g] ++ (wO o cI cR cS x v (wV o cI cR V))) sz)) (va_Qi (fun rz (u : Nat → Int64) => rz = nI 0 ∧ u 0 = (nI ((b_inl (v 3)))).toInt64) (fun (u : Nat → Int64) t => va_P D vwCl ([ol cL a 1 u] ++ (wO o cI cR cS (va_up x 0 (c_sv (x 0))) (b_enter v c) (wV o cI cR (c_put V ((x 0 3 + x 0 4) % 6) v)))) t.heap) (va_A ([ol cL a 1 g] ++ (wO o cI cR cS x v (wV o cI cR V))) sz)) o_x0 0 0 (va_A ([ol cL a 1 g] ++ (wO o cI cR cS x v (wV o cI cR V))) sz) := by
  refine vx_ofWH (cc := cL_come) (maxL := 4) (ret := (some .int)) (hh := [(0, 9, 12, 13), (0, 9, 15, 15)]) (by decide) rfl ?_
  intro p e s m args below meth cd s₁ B hml hv
  obtain ⟨rfl, hsz, hP, hK, hD0, hG⟩ := hv
  have hx := B.exec
  have hb := B.bytes
  have hrt := B.returns
  have hts := atoms_spec (ws := wsL_come) B.pre
  have hown : s.vm.findClass RL = some m.cls := findClass_of_methodNamed B.named
  have hlocks := B.notSynchronized
  have htab := vx_table (x := yL_come) B (hts _ List.mem_cons_self)
  subst hsz
  have hD := hD0.self (sz := s.heap.size)
  generalize hAe : va_A ([ol cL a 1 g] ++ (wO o cI cR cS x v (wV o cI cR V))) s.heap.size = A at hD hG ⊢
  have hA : ∀ q : Nat, s.heap.size ≤ q → A q := fun q h => by rw [← hAe]; exact Or.inr h
  have hS : va_S A s.heap s.heap [] := va_S.rf
  have hN := hG.1
  have hl := lv_entry ([.ref (o 0), .int (nI c), .ref a]) (n := 4) (Nat.le_of_ble_eq_true rfl)
  rw [lg_entry_eq]
  generalize (lg_sl ([.ref (o 0), .int (nI c), .ref a]) ++ List.replicate (4 - (lg_sl ([.ref (o 0), .int (nI c), .ref a])).length) Slot.unset).toArray = ls at hl ⊢
  have hl : lv_has ls 4 [(0, .ref (o 0)), (1, .int (nI c)), (2, .ref a)] := hl
  refine lv_aload_n hx hb dL_come_0 rfl (lv_at hl 2 rfl) ?_
  refine o_const (k := 0) hx hb dL_come_1 (by decide) ?_
  refine lv_aload_n hx hb dL_come_2 rfl (lv_at hl 0 rfl) ?_
  refine lv_iload_n hx hb dL_come_3 rfl (lv_at hl 1 rfl) ?_
  refine o_wiT [ol cL a 1 g] (va_runV (As := [.int (nI c)]) (rest := [.int (nI 0), .ref a]) ⟨hx, hb, hml, hown, hts⟩ (k_X4_come l D cI cR cS cL s.heap.size o x v V b c (by first | assumption | omega) (by first | assumption | omega) (by first | assumption | omega) (by first | assumption | omega) (by first | assumption | omega) (by first | assumption | omega)) (cwV 1 hts gL_come_X4_come rfl rfl rfl (by decide +kernel) ⟨Nat.le_of_ble_eq_true rfl, Nat.le_of_ble_eq_true rfl⟩) (o_v (o_pB hK hN (o_PT (pre := [ol cL a 1 g]) (ws := (wO o cI cR cS x v (wV o cI cR V))) hP) (o_DT (pre := [ol cL a 1 g]) (ws := (wO o cI cR cS x v (wV o cI cR V))) hD)) (va_recv hK hP (ci := 4) (q0 := 1) rfl rfl)) rfl rfl hl.1 rfl (lv_room (Nat.le_of_ble_eq_true rfl)) dL_come_4 ⟨Nat.zero_le _, Nat.zero_le _⟩) hP hD hS hA (fun _ => rfl) (fun r1 _ H locs e1 hP hD hS => ?_)
  have e1 : r1 = nI ((b_inl (v 3))) := e1
  subst e1
  refine lv_i2l (v := (nI ((b_inl (v 3)))).toInt64) hx hb dL_come_7 rfl ?_
  refine va_last (x := (nI ((b_inl (v 3)))).toInt64) hx hb hK hP hD hS 0 3 rfl rfl (vp_in_nI (by decide) (by decide)) dL_come_8 (fun H locs hP hD hS => ?_)
  have hu : vp_updL g (nI 0).toNatClampNeg ((nI ((b_inl (v 3)))).toInt64) 0 = (nI ((b_inl (v 3)))).toInt64 := by rw [nI_clamp (show 0 < 2 ^ 31 by decide)]; exact if_pos rfl
  generalize vp_updL g (nI 0).toNatClampNeg ((nI ((b_inl (v 3)))).toInt64) = u at hu hP hD
  refine lv_goto (tgt := 18) hx hb dL_come_9 (by decide) ?_
  refine o_const (k := 0) hx hb dL_come_18 (by decide) ?_
  exact vx_ret (W.iret (v := nI 0) hx hb hrt (fun t ht hW => ⟨⟨_, u, rfl, ⟨rfl, hu⟩, by show va_P D vwCl _ t.heap; rw [ht]; exact hP⟩, hS.F ht⟩) hS.2.2 dL_come_19)
set_option maxHeartbeats 4000000 in
set_option maxRecDepth 100000 in
theorem l_come_1 (l : Launch) (D : va_G) (cI cR cS cL : ClassId) (hfl : l.stackTraces = false) (sz : Nat) (o : Nat → Nat) (x : Nat → Nat → Nat) (v : Nat → Nat → Nat) (tl : va_W) (b : Nat) (c : Nat) (a : Nat) (g : Nat → Int64) (h0c : c < 2 ^ 32) (hbad : ¬ c < 3) : vx_Met l yL_come wsL_come ({ frames := 7, cells := 1, slots := 6, locals := 103 }) (va_Pc [.ref (o 0), .int (nI c), .ref a] (o_F D (o_T cI cR cS cL) ([ol cL a 1 g] ++ (wO o cI cR cS x v tl)) sz)) (va_Qi (fun rz (u : Nat → Int64) => rz = nI 1 ∧ u = g) (fun (u : Nat → Int64) t => va_P D vwCl ([ol cL a 1 u] ++ (wO o cI cR cS x v tl)) t.heap) (va_A ([ol cL a 1 g] ++ (wO o cI cR cS x v tl)) sz)) o_x0 1 6 (va_A ([ol cL a 1 g] ++ (wO o cI cR cS x v tl)) sz) := by
  refine vx_ofWH (cc := cL_come) (maxL := 4) (ret := (some .int)) (hh := [(0, 9, 12, 13), (0, 9, 15, 15)]) (by decide) rfl ?_
  intro p e s m args below meth cd s₁ B hml hv
  obtain ⟨rfl, hsz, hP, hK, hD0, hG⟩ := hv
  have hx := B.exec
  have hb := B.bytes
  have hrt := B.returns
  have hts := atoms_spec (ws := wsL_come) B.pre
  have hown : s.vm.findClass RL = some m.cls := findClass_of_methodNamed B.named
  have hlocks := B.notSynchronized
  have htab := vx_table (x := yL_come) B (hts _ List.mem_cons_self)
  subst hsz
  have hD := hD0.self (sz := s.heap.size)
  generalize hAe : va_A ([ol cL a 1 g] ++ (wO o cI cR cS x v tl)) s.heap.size = A at hD hG ⊢
  have hA : ∀ q : Nat, s.heap.size ≤ q → A q := fun q h => by rw [← hAe]; exact Or.inr h
  have hS : va_S A s.heap s.heap [] := va_S.rf
  have hN := hG.1
  have hl := lv_entry ([.ref (o 0), .int (nI c), .ref a]) (n := 4) (Nat.le_of_ble_eq_true rfl)
  rw [lg_entry_eq]
  generalize (lg_sl ([.ref (o 0), .int (nI c), .ref a]) ++ List.replicate (4 - (lg_sl ([.ref (o 0), .int (nI c), .ref a])).length) Slot.unset).toArray = ls at hl ⊢
  have hl : lv_has ls 4 [(0, .ref (o 0)), (1, .int (nI c)), (2, .ref a)] := hl
  refine lv_aload_n hx hb dL_come_0 rfl (lv_at hl 2 rfl) ?_
  refine o_const (k := 0) hx hb dL_come_1 (by decide) ?_
  refine lv_aload_n hx hb dL_come_2 rfl (lv_at hl 0 rfl) ?_
  refine lv_iload_n hx hb dL_come_3 rfl (lv_at hl 1 rfl) ?_
  refine o_cx (E := nmI) (vx_runV (As := [.int (nI c)]) (rest := [.int (nI 0), .ref a]) ⟨hx, hb, hml, hown, hts⟩ (x_X4_come_1 l D cI cR cS cL hfl o x v tl b c (by first | assumption | omega) (by first | assumption | omega)) (cwV 1 hts gL_come_X4_come rfl rfl rfl (by decide +kernel) ⟨Nat.le_of_ble_eq_true rfl, Nat.le_of_ble_eq_true rfl⟩) (o_v (o_pE hK hG (o_PT (pre := [ol cL a 1 g]) (ws := (wO o cI cR cS x v tl)) hP)) (va_recv hK hP (ci := 4) (q0 := 1) rfl rfl)) rfl rfl hl.1 rfl (lv_room (Nat.le_of_ble_eq_true rfl)) dL_come_4 ⟨Nat.le_of_ble_eq_true rfl, Nat.le_of_ble_eq_true rfl⟩) hP hS (fun ce q9 H locs hP hS h1 h2 h3 => ?_)
  refine vx_catch (own := RL) (name := nmI) (E := nmI) hown [] ⟨0, 9, 12, 13⟩ [⟨0, 9, 15, 15⟩] htab (fun z hz => nomatch hz) (by decide) (by decide) (hts (.classLink RL 13 "java/lang/IndexOutOfBoundsException") (List.mem_of_getElem? (i := 1) (by decide +kernel))) (va_Nw.use (A := _) rfl hG.2.1.1.1) h1 h2 h3 ?_
  refine lv_astore_n (lv' := [(3, .ref q9), (0, .ref (o 0)), (1, .int (nI c)), (2, .ref a)]) hx hb dL_come_12 rfl hl (by decide) rfl (fun ls hl => ?_)
  refine o_const (k := 1) hx hb dL_come_13 (by decide) ?_
  exact vx_ret (W.iret (v := nI 1) hx hb hrt (fun t ht hW => ⟨⟨_, g, rfl, ⟨rfl, rfl⟩, by show va_P D vwCl _ t.heap; rw [ht]; exact hP⟩, hS.F ht⟩) hS.2.2 dL_come_14)
set_option maxHeartbeats 4000000 in
set_option maxRecDepth 100000 in
theorem l_come_2 (l : Launch) (D : va_G) (cI cR cS cL : ClassId) (hfl : l.stackTraces = false) (sz : Nat) (o : Nat → Nat) (x : Nat → Nat → Nat) (v : Nat → Nat → Nat) (tl : va_W) (b : Nat) (c : Nat) (a : Nat) (g : Nat → Int64) (hSI : s_I b v) (hb : b < 2 ^ 28) (hc : c < 3) (hbad : ¬ v 3 c = 4294967295) : vx_Met l yL_come wsL_come ({ frames := 7, cells := 1, slots := 6, locals := 103 }) (va_Pc [.ref (o 0), .int (nI c), .ref a] (o_F D (o_T cI cR cS cL) ([ol cL a 1 g] ++ (wO o cI cR cS x v tl)) sz)) (va_Qi (fun rz (u : Nat → Int64) => rz = nI 2 ∧ u = g) (fun (u : Nat → Int64) t => va_P D vwCl ([ol cL a 1 u] ++ (wO o cI cR cS x v tl)) t.heap) (va_A ([ol cL a 1 g] ++ (wO o cI cR cS x v tl)) sz)) o_x0 1 6 (va_A ([ol cL a 1 g] ++ (wO o cI cR cS x v tl)) sz) := by
  refine vx_ofWH (cc := cL_come) (maxL := 4) (ret := (some .int)) (hh := [(0, 9, 12, 13), (0, 9, 15, 15)]) (by decide) rfl ?_
  intro p e s m args below meth cd s₁ B hml hv
  obtain ⟨rfl, hsz, hP, hK, hD0, hG⟩ := hv
  have hx := B.exec
  have hb := B.bytes
  have hrt := B.returns
  have hts := atoms_spec (ws := wsL_come) B.pre
  have hown : s.vm.findClass RL = some m.cls := findClass_of_methodNamed B.named
  have hlocks := B.notSynchronized
  have htab := vx_table (x := yL_come) B (hts _ List.mem_cons_self)
  subst hsz
  have hD := hD0.self (sz := s.heap.size)
  generalize hAe : va_A ([ol cL a 1 g] ++ (wO o cI cR cS x v tl)) s.heap.size = A at hD hG ⊢
  have hA : ∀ q : Nat, s.heap.size ≤ q → A q := fun q h => by rw [← hAe]; exact Or.inr h
  have hS : va_S A s.heap s.heap [] := va_S.rf
  have hN := hG.1
  have hl := lv_entry ([.ref (o 0), .int (nI c), .ref a]) (n := 4) (Nat.le_of_ble_eq_true rfl)
  rw [lg_entry_eq]
  generalize (lg_sl ([.ref (o 0), .int (nI c), .ref a]) ++ List.replicate (4 - (lg_sl ([.ref (o 0), .int (nI c), .ref a])).length) Slot.unset).toArray = ls at hl ⊢
  have hl : lv_has ls 4 [(0, .ref (o 0)), (1, .int (nI c)), (2, .ref a)] := hl
  refine lv_aload_n hx hb dL_come_0 rfl (lv_at hl 2 rfl) ?_
  refine o_const (k := 0) hx hb dL_come_1 (by decide) ?_
  refine lv_aload_n hx hb dL_come_2 rfl (lv_at hl 0 rfl) ?_
  refine lv_iload_n hx hb dL_come_3 rfl (lv_at hl 1 rfl) ?_
  refine o_cx (E := nmS) (vx_runV (As := [.int (nI c)]) (rest := [.int (nI 0), .ref a]) ⟨hx, hb, hml, hown, hts⟩ (x_X4_come_2 l D cI cR cS cL hfl o x v tl b c (by first | assumption | omega) (by first | assumption | omega) (by first | assumption | omega) (by first | assumption | omega)) (cwV 1 hts gL_come_X4_come rfl rfl rfl (by decide +kernel) ⟨Nat.le_of_ble_eq_true rfl, Nat.le_of_ble_eq_true rfl⟩) (o_v (o_pE hK hG (o_PT (pre := [ol cL a 1 g]) (ws := (wO o cI cR cS x v tl)) hP)) (va_recv hK hP (ci := 4) (q0 := 1) rfl rfl)) rfl rfl hl.1 rfl (lv_room (Nat.le_of_ble_eq_true rfl)) dL_come_4 ⟨Nat.le_of_ble_eq_true rfl, Nat.le_of_ble_eq_true rfl⟩) hP hS (fun ce q9 H locs hP hS h1 h2 h3 => ?_)
  refine vx_catch (own := RL) (name := nmS) (E := nmS) hown [⟨0, 9, 12, 13⟩] ⟨0, 9, 15, 15⟩ [] htab (List.forall_mem_cons.mpr ⟨Or.inr ⟨by decide, nmI, (hts (.classLink RL 13 "java/lang/IndexOutOfBoundsException") (List.mem_of_getElem? (i := 1) (by decide +kernel))), hG.2.1.2.1⟩, (fun _ h => nomatch h)⟩) (by decide) (by decide) (hts (.classLink RL 15 "java/lang/IllegalStateException") (List.mem_of_getElem? (i := 2) (by decide +kernel))) (va_Nw.use (A := _) rfl hG.2.1.1.2.2) h1 h2 h3 ?_
  refine lv_astore_n (lv' := [(3, .ref q9), (0, .ref (o 0)), (1, .int (nI c)), (2, .ref a)]) hx hb dL_come_15 rfl hl (by decide) rfl (fun ls hl => ?_)
  refine o_const (k := 2) hx hb dL_come_16 (by decide) ?_
  exact vx_ret (W.iret (v := nI 2) hx hb hrt (fun t ht hW => ⟨⟨_, g, rfl, ⟨rfl, rfl⟩, by show va_P D vwCl _ t.heap; rw [ht]; exact hP⟩, hS.F ht⟩) hS.2.2 dL_come_17)
set_option maxHeartbeats 4000000 in
set_option maxRecDepth 100000 in
theorem l_chalk_0 (l : Launch) (D : va_G) (cI cR cS cL : ClassId) (sz : Nat) (o : Nat → Nat) (x : Nat → Nat → Nat) (v : Nat → Nat → Nat) (V : Nat → Nat → Nat → Nat) (b : Nat) (f : Nat) (y : Nat) (a : Nat) (g : Nat → Int64) (hSI : s_I b v) (hb : b < 2 ^ 28) (h3 : x 0 3 < 6) (h4 : x 0 4 ≤ 6) (hf : f < 5) (hy0 : y < 100) (ho : v 0 0 % 2 = 1) : vx_Met l yL_chalk wsL_chalk ({ frames := 5, cells := 0, slots := 0, locals := 103 }) (va_Pc [.ref (o 0), .int (nI f), .int (nI y), .ref a] (o_F D (o_T cI cR cS cL) ([ol cL a 1 g] ++ (wO o cI cR cS x v (wV o cI cR V))) sz)) (va_Qi (fun rz (u : Nat → Int64) => rz = nI 0 ∧ u 0 = (nI ((v 1 f))).toInt64) (fun (u : Nat → Int64) t => va_P D vwCl ([ol cL a 1 u] ++ (wO o cI cR cS (va_up x 0 (c_sv (x 0))) (b_write v f y) (wV o cI cR (c_put V ((x 0 3 + x 0 4) % 6) v)))) t.heap) (va_A ([ol cL a 1 g] ++ (wO o cI cR cS x v (wV o cI cR V))) sz)) o_x0 0 0 (va_A ([ol cL a 1 g] ++ (wO o cI cR cS x v (wV o cI cR V))) sz) := by
  refine vx_ofWH (cc := cL_chalk) (maxL := 5) (ret := (some .int)) (hh := [(0, 10, 13, 13), (0, 10, 17, 21), (0, 10, 21, 15)]) (by decide) rfl ?_
  intro p e s m args below meth cd s₁ B hml hv
  obtain ⟨rfl, hsz, hP, hK, hD0, hG⟩ := hv
  have hx := B.exec
  have hb := B.bytes
  have hrt := B.returns
  have hts := atoms_spec (ws := wsL_chalk) B.pre
  have hown : s.vm.findClass RL = some m.cls := findClass_of_methodNamed B.named
  have hlocks := B.notSynchronized
  have htab := vx_table (x := yL_chalk) B (hts _ List.mem_cons_self)
  subst hsz
  have hD := hD0.self (sz := s.heap.size)
  generalize hAe : va_A ([ol cL a 1 g] ++ (wO o cI cR cS x v (wV o cI cR V))) s.heap.size = A at hD hG ⊢
  have hA : ∀ q : Nat, s.heap.size ≤ q → A q := fun q h => by rw [← hAe]; exact Or.inr h
  have hS : va_S A s.heap s.heap [] := va_S.rf
  have hN := hG.1
  have hl := lv_entry ([.ref (o 0), .int (nI f), .int (nI y), .ref a]) (n := 5) (Nat.le_of_ble_eq_true rfl)
  rw [lg_entry_eq]
  generalize (lg_sl ([.ref (o 0), .int (nI f), .int (nI y), .ref a]) ++ List.replicate (5 - (lg_sl ([.ref (o 0), .int (nI f), .int (nI y), .ref a])).length) Slot.unset).toArray = ls at hl ⊢
  have hl : lv_has ls 5 [(0, .ref (o 0)), (1, .int (nI f)), (2, .int (nI y)), (3, .ref a)] := hl
  refine lv_aload_n hx hb dL_chalk_0 rfl (lv_at hl 3 rfl) ?_
  refine o_const (k := 0) hx hb dL_chalk_1 (by decide) ?_
  refine lv_aload_n hx hb dL_chalk_2 rfl (lv_at hl 0 rfl) ?_
  refine lv_iload_n hx hb dL_chalk_3 rfl (lv_at hl 1 rfl) ?_
  refine lv_iload_n hx hb dL_chalk_4 rfl (lv_at hl 2 rfl) ?_
  refine o_wiT [ol cL a 1 g] (va_runV (As := [.int (nI f), .int (nI y)]) (rest := [.int (nI 0), .ref a]) ⟨hx, hb, hml, hown, hts⟩ (k_X4_chalk l D cI cR cS cL s.heap.size o x v V b f y (by first | assumption | omega) (by first | assumption | omega) (by first | assumption | omega) (by first | assumption | omega) (by first | assumption | omega) (by first | assumption | omega) (by first | assumption | omega)) (cwV 2 hts gL_chalk_X4_chalk rfl rfl rfl (by decide +kernel) ⟨Nat.le_of_ble_eq_true rfl, Nat.le_of_ble_eq_true rfl⟩) (o_v (o_pB hK hN (o_PT (pre := [ol cL a 1 g]) (ws := (wO o cI cR cS x v (wV o cI cR V))) hP) (o_DT (pre := [ol cL a 1 g]) (ws := (wO o cI cR cS x v (wV o cI cR V))) hD)) (va_recv hK hP (ci := 4) (q0 := 1) rfl rfl)) rfl rfl hl.1 rfl (lv_room (Nat.le_of_ble_eq_true rfl)) dL_chalk_5 ⟨Nat.zero_le _, Nat.zero_le _⟩) hP hD hS hA (fun _ => rfl) (fun r1 _ H locs e1 hP hD hS => ?_)
  have e1 : r1 = nI ((v 1 f)) := e1
  subst e1
  refine lv_i2l (v := (nI ((v 1 f))).toInt64) hx hb dL_chalk_8 rfl ?_
  refine va_last (x := (nI ((v 1 f))).toInt64) hx hb hK hP hD hS 0 3 rfl rfl (vp_in_nI (by decide) (by decide)) dL_chalk_9 (fun H locs hP hD hS => ?_)
  have hu : vp_updL g (nI 0).toNatClampNeg ((nI ((v 1 f))).toInt64) 0 = (nI ((v 1 f))).toInt64 := by rw [nI_clamp (show 0 < 2 ^ 31 by decide)]; exact if_pos rfl
  generalize vp_updL g (nI 0).toNatClampNeg ((nI ((v 1 f))).toInt64) = u at hu hP hD
  refine lv_goto (tgt := 25) hx hb dL_chalk_10 (by decide) ?_
  refine o_const (k := 0) hx hb dL_chalk_25 (by decide) ?_
  exact vx_ret (W.iret (v := nI 0) hx hb hrt (fun t ht hW => ⟨⟨_, u, rfl, ⟨rfl, hu⟩, by show va_P D vwCl _ t.heap; rw [ht]; exact hP⟩, hS.F ht⟩) hS.2.2 dL_chalk_26)
set_option maxHeartbeats 4000000 in
set_option maxRecDepth 100000 in
theorem l_chalk_1 (l : Launch) (D : va_G) (cI cR cS cL : ClassId) (hfl : l.stackTraces = false) (sz : Nat) (o : Nat → Nat) (x : Nat → Nat → Nat) (v : Nat → Nat → Nat) (tl : va_W) (b : Nat) (f : Nat) (y : Nat) (a : Nat) (g : Nat → Int64) (h0f : f < 2 ^ 32) (hbad : ¬ f < 5) : vx_Met l yL_chalk wsL_chalk ({ frames := 7, cells := 1, slots := 6, locals := 104 }) (va_Pc [.ref (o 0), .int (nI f), .int (nI y), .ref a] (o_F D (o_T cI cR cS cL) ([ol cL a 1 g] ++ (wO o cI cR cS x v tl)) sz)) (va_Qi (fun rz (u : Nat → Int64) => rz = nI 1 ∧ u = g) (fun (u : Nat → Int64) t => va_P D vwCl ([ol cL a 1 u] ++ (wO o cI cR cS x v tl)) t.heap) (va_A ([ol cL a 1 g] ++ (wO o cI cR cS x v tl)) sz)) o_x0 1 6 (va_A ([ol cL a 1 g] ++ (wO o cI cR cS x v tl)) sz) := by
  refine vx_ofWH (cc := cL_chalk) (maxL := 5) (ret := (some .int)) (hh := [(0, 10, 13, 13), (0, 10, 17, 21), (0, 10, 21, 15)]) (by decide) rfl ?_
  intro p e s m args below meth cd s₁ B hml hv
  obtain ⟨rfl, hsz, hP, hK, hD0, hG⟩ := hv
  have hx := B.exec
  have hb := B.bytes
  have hrt := B.returns
  have hts := atoms_spec (ws := wsL_chalk) B.pre
  have hown : s.vm.findClass RL = some m.cls := findClass_of_methodNamed B.named
  have hlocks := B.notSynchronized
  have htab := vx_table (x := yL_chalk) B (hts _ List.mem_cons_self)
  subst hsz
  have hD := hD0.self (sz := s.heap.size)
  generalize hAe : va_A ([ol cL a 1 g] ++ (wO o cI cR cS x v tl)) s.heap.size = A at hD hG ⊢
  have hA : ∀ q : Nat, s.heap.size ≤ q → A q := fun q h => by rw [← hAe]; exact Or.inr h
  have hS : va_S A s.heap s.heap [] := va_S.rf
  have hN := hG.1
  have hl := lv_entry ([.ref (o 0), .int (nI f), .int (nI y), .ref a]) (n := 5) (Nat.le_of_ble_eq_true rfl)
  rw [lg_entry_eq]
  generalize (lg_sl ([.ref (o 0), .int (nI f), .int (nI y), .ref a]) ++ List.replicate (5 - (lg_sl ([.ref (o 0), .int (nI f), .int (nI y), .ref a])).length) Slot.unset).toArray = ls at hl ⊢
  have hl : lv_has ls 5 [(0, .ref (o 0)), (1, .int (nI f)), (2, .int (nI y)), (3, .ref a)] := hl
  refine lv_aload_n hx hb dL_chalk_0 rfl (lv_at hl 3 rfl) ?_
  refine o_const (k := 0) hx hb dL_chalk_1 (by decide) ?_
  refine lv_aload_n hx hb dL_chalk_2 rfl (lv_at hl 0 rfl) ?_
  refine lv_iload_n hx hb dL_chalk_3 rfl (lv_at hl 1 rfl) ?_
  refine lv_iload_n hx hb dL_chalk_4 rfl (lv_at hl 2 rfl) ?_
  refine o_cx (E := nmI) (vx_runV (As := [.int (nI f), .int (nI y)]) (rest := [.int (nI 0), .ref a]) ⟨hx, hb, hml, hown, hts⟩ (x_X4_chalk_1 l D cI cR cS cL hfl o x v tl b f y (by first | assumption | omega) (by first | assumption | omega)) (cwV 2 hts gL_chalk_X4_chalk rfl rfl rfl (by decide +kernel) ⟨Nat.le_of_ble_eq_true rfl, Nat.le_of_ble_eq_true rfl⟩) (o_v (o_pE hK hG (o_PT (pre := [ol cL a 1 g]) (ws := (wO o cI cR cS x v tl)) hP)) (va_recv hK hP (ci := 4) (q0 := 1) rfl rfl)) rfl rfl hl.1 rfl (lv_room (Nat.le_of_ble_eq_true rfl)) dL_chalk_5 ⟨Nat.le_of_ble_eq_true rfl, Nat.le_of_ble_eq_true rfl⟩) hP hS (fun ce q9 H locs hP hS h1 h2 h3 => ?_)
  refine vx_catch (own := RL) (name := nmI) (E := nmI) hown [] ⟨0, 10, 13, 13⟩ [⟨0, 10, 17, 21⟩, ⟨0, 10, 21, 15⟩] htab (fun z hz => nomatch hz) (by decide) (by decide) (hts (.classLink RL 13 "java/lang/IndexOutOfBoundsException") (List.mem_of_getElem? (i := 1) (by decide +kernel))) (va_Nw.use (A := _) rfl hG.2.1.1.1) h1 h2 h3 ?_
  refine lv_astore (lv' := [(4, .ref q9), (0, .ref (o 0)), (1, .int (nI f)), (2, .int (nI y)), (3, .ref a)]) hx hb dL_chalk_13 hl (by decide) rfl (fun ls hl => ?_)
  refine o_const (k := 1) hx hb dL_chalk_15 (by decide) ?_
  exact vx_ret (W.iret (v := nI 1) hx hb hrt (fun t ht hW => ⟨⟨_, g, rfl, ⟨rfl, rfl⟩, by show va_P D vwCl _ t.heap; rw [ht]; exact hP⟩, hS.F ht⟩) hS.2.2 dL_chalk_16)
set_option maxHeartbeats 4000000 in
set_option maxRecDepth 100000 in
theorem l_chalk_2 (l : Launch) (D : va_G) (cI cR cS cL : ClassId) (hfl : l.stackTraces = false) (sz : Nat) (o : Nat → Nat) (x : Nat → Nat → Nat) (v : Nat → Nat → Nat) (tl : va_W) (b : Nat) (f : Nat) (y : Nat) (a : Nat) (g : Nat → Int64) (hf : f < 5) (h0y : y < 2 ^ 32) (hbad : ¬ y < 100) : vx_Met l yL_chalk wsL_chalk ({ frames := 7, cells := 1, slots := 6, locals := 104 }) (va_Pc [.ref (o 0), .int (nI f), .int (nI y), .ref a] (o_F D (o_T cI cR cS cL) ([ol cL a 1 g] ++ (wO o cI cR cS x v tl)) sz)) (va_Qi (fun rz (u : Nat → Int64) => rz = nI 2 ∧ u = g) (fun (u : Nat → Int64) t => va_P D vwCl ([ol cL a 1 u] ++ (wO o cI cR cS x v tl)) t.heap) (va_A ([ol cL a 1 g] ++ (wO o cI cR cS x v tl)) sz)) o_x0 1 6 (va_A ([ol cL a 1 g] ++ (wO o cI cR cS x v tl)) sz) := by
  refine vx_ofWH (cc := cL_chalk) (maxL := 5) (ret := (some .int)) (hh := [(0, 10, 13, 13), (0, 10, 17, 21), (0, 10, 21, 15)]) (by decide) rfl ?_
  intro p e s m args below meth cd s₁ B hml hv
  obtain ⟨rfl, hsz, hP, hK, hD0, hG⟩ := hv
  have hx := B.exec
  have hb := B.bytes
  have hrt := B.returns
  have hts := atoms_spec (ws := wsL_chalk) B.pre
  have hown : s.vm.findClass RL = some m.cls := findClass_of_methodNamed B.named
  have hlocks := B.notSynchronized
  have htab := vx_table (x := yL_chalk) B (hts _ List.mem_cons_self)
  subst hsz
  have hD := hD0.self (sz := s.heap.size)
  generalize hAe : va_A ([ol cL a 1 g] ++ (wO o cI cR cS x v tl)) s.heap.size = A at hD hG ⊢
  have hA : ∀ q : Nat, s.heap.size ≤ q → A q := fun q h => by rw [← hAe]; exact Or.inr h
  have hS : va_S A s.heap s.heap [] := va_S.rf
  have hN := hG.1
  have hl := lv_entry ([.ref (o 0), .int (nI f), .int (nI y), .ref a]) (n := 5) (Nat.le_of_ble_eq_true rfl)
  rw [lg_entry_eq]
  generalize (lg_sl ([.ref (o 0), .int (nI f), .int (nI y), .ref a]) ++ List.replicate (5 - (lg_sl ([.ref (o 0), .int (nI f), .int (nI y), .ref a])).length) Slot.unset).toArray = ls at hl ⊢
  have hl : lv_has ls 5 [(0, .ref (o 0)), (1, .int (nI f)), (2, .int (nI y)), (3, .ref a)] := hl
  refine lv_aload_n hx hb dL_chalk_0 rfl (lv_at hl 3 rfl) ?_
  refine o_const (k := 0) hx hb dL_chalk_1 (by decide) ?_
  refine lv_aload_n hx hb dL_chalk_2 rfl (lv_at hl 0 rfl) ?_
  refine lv_iload_n hx hb dL_chalk_3 rfl (lv_at hl 1 rfl) ?_
  refine lv_iload_n hx hb dL_chalk_4 rfl (lv_at hl 2 rfl) ?_
  refine o_cx (E := nmA) (vx_runV (As := [.int (nI f), .int (nI y)]) (rest := [.int (nI 0), .ref a]) ⟨hx, hb, hml, hown, hts⟩ (x_X4_chalk_2 l D cI cR cS cL hfl o x v tl b f y (by first | assumption | omega) (by first | assumption | omega) (by first | assumption | omega)) (cwV 2 hts gL_chalk_X4_chalk rfl rfl rfl (by decide +kernel) ⟨Nat.le_of_ble_eq_true rfl, Nat.le_of_ble_eq_true rfl⟩) (o_v (o_pE hK hG (o_PT (pre := [ol cL a 1 g]) (ws := (wO o cI cR cS x v tl)) hP)) (va_recv hK hP (ci := 4) (q0 := 1) rfl rfl)) rfl rfl hl.1 rfl (lv_room (Nat.le_of_ble_eq_true rfl)) dL_chalk_5 ⟨Nat.le_of_ble_eq_true rfl, Nat.le_of_ble_eq_true rfl⟩) hP hS (fun ce q9 H locs hP hS h1 h2 h3 => ?_)
  refine vx_catch (own := RL) (name := nmA) (E := nmA) hown [⟨0, 10, 13, 13⟩] ⟨0, 10, 17, 21⟩ [⟨0, 10, 21, 15⟩] htab (List.forall_mem_cons.mpr ⟨Or.inr ⟨by decide, nmI, (hts (.classLink RL 13 "java/lang/IndexOutOfBoundsException") (List.mem_of_getElem? (i := 1) (by decide +kernel))), hG.2.1.2.2.1⟩, (fun _ h => nomatch h)⟩) (by decide) (by decide) (hts (.classLink RL 21 "java/lang/IllegalArgumentException") (List.mem_of_getElem? (i := 2) (by decide +kernel))) (va_Nw.use (A := _) rfl hG.2.1.1.2.1) h1 h2 h3 ?_
  refine lv_astore (lv' := [(4, .ref q9), (0, .ref (o 0)), (1, .int (nI f)), (2, .int (nI y)), (3, .ref a)]) hx hb dL_chalk_17 hl (by decide) rfl (fun ls hl => ?_)
  refine o_const (k := 2) hx hb dL_chalk_19 (by decide) ?_
  exact vx_ret (W.iret (v := nI 2) hx hb hrt (fun t ht hW => ⟨⟨_, g, rfl, ⟨rfl, rfl⟩, by show va_P D vwCl _ t.heap; rw [ht]; exact hP⟩, hS.F ht⟩) hS.2.2 dL_chalk_20)
set_option maxHeartbeats 4000000 in
set_option maxRecDepth 100000 in
theorem l_chalk_3 (l : Launch) (D : va_G) (cI cR cS cL : ClassId) (hfl : l.stackTraces = false) (sz : Nat) (o : Nat → Nat) (x : Nat → Nat → Nat) (v : Nat → Nat → Nat) (tl : va_W) (b : Nat) (f : Nat) (y : Nat) (a : Nat) (g : Nat → Int64) (hSI : s_I b v) (hb : b < 2 ^ 28) (hf : f < 5) (hy : y < 100) (hbad : ¬ v 0 0 % 2 = 1) : vx_Met l yL_chalk wsL_chalk ({ frames := 7, cells := 1, slots := 6, locals := 104 }) (va_Pc [.ref (o 0), .int (nI f), .int (nI y), .ref a] (o_F D (o_T cI cR cS cL) ([ol cL a 1 g] ++ (wO o cI cR cS x v tl)) sz)) (va_Qi (fun rz (u : Nat → Int64) => rz = nI 3 ∧ u = g) (fun (u : Nat → Int64) t => va_P D vwCl ([ol cL a 1 u] ++ (wO o cI cR cS x v tl)) t.heap) (va_A ([ol cL a 1 g] ++ (wO o cI cR cS x v tl)) sz)) o_x0 1 6 (va_A ([ol cL a 1 g] ++ (wO o cI cR cS x v tl)) sz) := by
  refine vx_ofWH (cc := cL_chalk) (maxL := 5) (ret := (some .int)) (hh := [(0, 10, 13, 13), (0, 10, 17, 21), (0, 10, 21, 15)]) (by decide) rfl ?_
  intro p e s m args below meth cd s₁ B hml hv
  obtain ⟨rfl, hsz, hP, hK, hD0, hG⟩ := hv
  have hx := B.exec
  have hb := B.bytes
  have hrt := B.returns
  have hts := atoms_spec (ws := wsL_chalk) B.pre
  have hown : s.vm.findClass RL = some m.cls := findClass_of_methodNamed B.named
  have hlocks := B.notSynchronized
  have htab := vx_table (x := yL_chalk) B (hts _ List.mem_cons_self)
  subst hsz
  have hD := hD0.self (sz := s.heap.size)
  generalize hAe : va_A ([ol cL a 1 g] ++ (wO o cI cR cS x v tl)) s.heap.size = A at hD hG ⊢
  have hA : ∀ q : Nat, s.heap.size ≤ q → A q := fun q h => by rw [← hAe]; exact Or.inr h
  have hS : va_S A s.heap s.heap [] := va_S.rf
  have hN := hG.1
  have hl := lv_entry ([.ref (o 0), .int (nI f), .int (nI y), .ref a]) (n := 5) (Nat.le_of_ble_eq_true rfl)
  rw [lg_entry_eq]
  generalize (lg_sl ([.ref (o 0), .int (nI f), .int (nI y), .ref a]) ++ List.replicate (5 - (lg_sl ([.ref (o 0), .int (nI f), .int (nI y), .ref a])).length) Slot.unset).toArray = ls at hl ⊢
  have hl : lv_has ls 5 [(0, .ref (o 0)), (1, .int (nI f)), (2, .int (nI y)), (3, .ref a)] := hl
  refine lv_aload_n hx hb dL_chalk_0 rfl (lv_at hl 3 rfl) ?_
  refine o_const (k := 0) hx hb dL_chalk_1 (by decide) ?_
  refine lv_aload_n hx hb dL_chalk_2 rfl (lv_at hl 0 rfl) ?_
  refine lv_iload_n hx hb dL_chalk_3 rfl (lv_at hl 1 rfl) ?_
  refine lv_iload_n hx hb dL_chalk_4 rfl (lv_at hl 2 rfl) ?_
  refine o_cx (E := nmS) (vx_runV (As := [.int (nI f), .int (nI y)]) (rest := [.int (nI 0), .ref a]) ⟨hx, hb, hml, hown, hts⟩ (x_X4_chalk_3 l D cI cR cS cL hfl o x v tl b f y (by first | assumption | omega) (by first | assumption | omega) (by first | assumption | omega) (by first | assumption | omega) (by first | assumption | omega)) (cwV 2 hts gL_chalk_X4_chalk rfl rfl rfl (by decide +kernel) ⟨Nat.le_of_ble_eq_true rfl, Nat.le_of_ble_eq_true rfl⟩) (o_v (o_pE hK hG (o_PT (pre := [ol cL a 1 g]) (ws := (wO o cI cR cS x v tl)) hP)) (va_recv hK hP (ci := 4) (q0 := 1) rfl rfl)) rfl rfl hl.1 rfl (lv_room (Nat.le_of_ble_eq_true rfl)) dL_chalk_5 ⟨Nat.le_of_ble_eq_true rfl, Nat.le_of_ble_eq_true rfl⟩) hP hS (fun ce q9 H locs hP hS h1 h2 h3 => ?_)
  refine vx_catch (own := RL) (name := nmS) (E := nmS) hown [⟨0, 10, 13, 13⟩, ⟨0, 10, 17, 21⟩] ⟨0, 10, 21, 15⟩ [] htab (List.forall_mem_cons.mpr ⟨Or.inr ⟨by decide, nmI, (hts (.classLink RL 13 "java/lang/IndexOutOfBoundsException") (List.mem_of_getElem? (i := 1) (by decide +kernel))), hG.2.1.2.1⟩, (List.forall_mem_cons.mpr ⟨Or.inr ⟨by decide, nmA, (hts (.classLink RL 21 "java/lang/IllegalArgumentException") (List.mem_of_getElem? (i := 2) (by decide +kernel))), hG.2.1.2.2.2.1⟩, (fun _ h => nomatch h)⟩)⟩) (by decide) (by decide) (hts (.classLink RL 15 "java/lang/IllegalStateException") (List.mem_of_getElem? (i := 3) (by decide +kernel))) (va_Nw.use (A := _) rfl hG.2.1.1.2.2) h1 h2 h3 ?_
  refine lv_astore (lv' := [(4, .ref q9), (0, .ref (o 0)), (1, .int (nI f)), (2, .int (nI y)), (3, .ref a)]) hx hb dL_chalk_21 hl (by decide) rfl (fun ls hl => ?_)
  refine o_const (k := 3) hx hb dL_chalk_23 (by decide) ?_
  exact vx_ret (W.iret (v := nI 3) hx hb hrt (fun t ht hW => ⟨⟨_, g, rfl, ⟨rfl, rfl⟩, by show va_P D vwCl _ t.heap; rw [ht]; exact hP⟩, hS.F ht⟩) hS.2.2 dL_chalk_24)
set_option maxHeartbeats 4000000 in
set_option maxRecDepth 100000 in
theorem l_done_0 (l : Launch) (D : va_G) (cI cR cS cL : ClassId) (sz : Nat) (o : Nat → Nat) (x : Nat → Nat → Nat) (v : Nat → Nat → Nat) (V : Nat → Nat → Nat → Nat) (b : Nat) (c : Nat) (a : Nat) (g : Nat → Int64) (hSI : s_I b v) (hb : b < 2 ^ 28) (h3 : x 0 3 < 6) (h4 : x 0 4 ≤ 6) (hc : c < 3) (ha : v 3 c = 0) : vx_Met l yL_done wsL_done ({ frames := 5, cells := 0, slots := 0, locals := 105 }) (va_Pc [.ref (o 0), .int (nI c), .ref a] (o_F D (o_T cI cR cS cL) ([ol cL a 1 g] ++ (wO o cI cR cS x v (wV o cI cR V))) sz)) (va_Qi (fun rz (u : Nat → Int64) => rz = nI 0 ∧ u 0 = (nI (((v 0 0 + 1) / 2))).toInt64) (fun (u : Nat → Int64) t => va_P D vwCl ([ol cL a 1 u] ++ (wO o cI cR cS (va_up x 0 (c_sv (x 0))) (b_leave v c) (wV o cI cR (c_put V ((x 0 3 + x 0 4) % 6) v)))) t.heap) (va_A ([ol cL a 1 g] ++ (wO o cI cR cS x v (wV o cI cR V))) sz)) o_x0 0 0 (va_A ([ol cL a 1 g] ++ (wO o cI cR cS x v (wV o cI cR V))) sz) := by
  refine vx_ofWH (cc := cL_done) (maxL := 4) (ret := (some .int)) (hh := [(0, 9, 12, 13), (0, 9, 15, 15)]) (by decide) rfl ?_
  intro p e s m args below meth cd s₁ B hml hv
  obtain ⟨rfl, hsz, hP, hK, hD0, hG⟩ := hv
  have hx := B.exec
  have hb := B.bytes
  have hrt := B.returns
  have hts := atoms_spec (ws := wsL_done) B.pre
  have hown : s.vm.findClass RL = some m.cls := findClass_of_methodNamed B.named
  have hlocks := B.notSynchronized
  have htab := vx_table (x := yL_done) B (hts _ List.mem_cons_self)
  subst hsz
  have hD := hD0.self (sz := s.heap.size)
  generalize hAe : va_A ([ol cL a 1 g] ++ (wO o cI cR cS x v (wV o cI cR V))) s.heap.size = A at hD hG ⊢
  have hA : ∀ q : Nat, s.heap.size ≤ q → A q := fun q h => by rw [← hAe]; exact Or.inr h
  have hS : va_S A s.heap s.heap [] := va_S.rf
  have hN := hG.1
  have hl := lv_entry ([.ref (o 0), .int (nI c), .ref a]) (n := 4) (Nat.le_of_ble_eq_true rfl)
  rw [lg_entry_eq]
  generalize (lg_sl ([.ref (o 0), .int (nI c), .ref a]) ++ List.replicate (4 - (lg_sl ([.ref (o 0), .int (nI c), .ref a])).length) Slot.unset).toArray = ls at hl ⊢
  have hl : lv_has ls 4 [(0, .ref (o 0)), (1, .int (nI c)), (2, .ref a)] := hl
  refine lv_aload_n hx hb dL_done_0 rfl (lv_at hl 2 rfl) ?_
  refine o_const (k := 0) hx hb dL_done_1 (by decide) ?_
  refine lv_aload_n hx hb dL_done_2 rfl (lv_at hl 0 rfl) ?_
  refine lv_iload_n hx hb dL_done_3 rfl (lv_at hl 1 rfl) ?_
  refine o_wiT [ol cL a 1 g] (va_runV (As := [.int (nI c)]) (rest := [.int (nI 0), .ref a]) ⟨hx, hb, hml, hown, hts⟩ (k_X4_done l D cI cR cS cL s.heap.size o x v V b c (by first | assumption | omega) (by first | assumption | omega) (by first | assumption | omega) (by first | assumption | omega) (by first | assumption | omega) (by first | assumption | omega)) (cwV 1 hts gL_done_X4_done rfl rfl rfl (by decide +kernel) ⟨Nat.le_of_ble_eq_true rfl, Nat.le_of_ble_eq_true rfl⟩) (o_v (o_pB hK hN (o_PT (pre := [ol cL a 1 g]) (ws := (wO o cI cR cS x v (wV o cI cR V))) hP) (o_DT (pre := [ol cL a 1 g]) (ws := (wO o cI cR cS x v (wV o cI cR V))) hD)) (va_recv hK hP (ci := 4) (q0 := 1) rfl rfl)) rfl rfl hl.1 rfl (lv_room (Nat.le_of_ble_eq_true rfl)) dL_done_4 ⟨Nat.zero_le _, Nat.zero_le _⟩) hP hD hS hA (fun _ => rfl) (fun r1 _ H locs e1 hP hD hS => ?_)
  have e1 : r1 = nI (((v 0 0 + 1) / 2)) := e1
  subst e1
  refine lv_i2l (v := (nI (((v 0 0 + 1) / 2))).toInt64) hx hb dL_done_7 rfl ?_
  refine va_last (x := (nI (((v 0 0 + 1) / 2))).toInt64) hx hb hK hP hD hS 0 3 rfl rfl (vp_in_nI (by decide) (by decide)) dL_done_8 (fun H locs hP hD hS => ?_)
  have hu : vp_updL g (nI 0).toNatClampNeg ((nI (((v 0 0 + 1) / 2))).toInt64) 0 = (nI (((v 0 0 + 1) / 2))).toInt64 := by rw [nI_clamp (show 0 < 2 ^ 31 by decide)]; exact if_pos rfl
  generalize vp_updL g (nI 0).toNatClampNeg ((nI (((v 0 0 + 1) / 2))).toInt64) = u at hu hP hD
  refine lv_goto (tgt := 18) hx hb dL_done_9 (by decide) ?_
  refine o_const (k := 0) hx hb dL_done_18 (by decide) ?_
  exact vx_ret (W.iret (v := nI 0) hx hb hrt (fun t ht hW => ⟨⟨_, u, rfl, ⟨rfl, hu⟩, by show va_P D vwCl _ t.heap; rw [ht]; exact hP⟩, hS.F ht⟩) hS.2.2 dL_done_19)
set_option maxHeartbeats 4000000 in
set_option maxRecDepth 100000 in
theorem l_done_1 (l : Launch) (D : va_G) (cI cR cS cL : ClassId) (hfl : l.stackTraces = false) (sz : Nat) (o : Nat → Nat) (x : Nat → Nat → Nat) (v : Nat → Nat → Nat) (tl : va_W) (b : Nat) (c : Nat) (a : Nat) (g : Nat → Int64) (h0c : c < 2 ^ 32) (hbad : ¬ c < 3) : vx_Met l yL_done wsL_done ({ frames := 7, cells := 1, slots := 6, locals := 103 }) (va_Pc [.ref (o 0), .int (nI c), .ref a] (o_F D (o_T cI cR cS cL) ([ol cL a 1 g] ++ (wO o cI cR cS x v tl)) sz)) (va_Qi (fun rz (u : Nat → Int64) => rz = nI 1 ∧ u = g) (fun (u : Nat → Int64) t => va_P D vwCl ([ol cL a 1 u] ++ (wO o cI cR cS x v tl)) t.heap) (va_A ([ol cL a 1 g] ++ (wO o cI cR cS x v tl)) sz)) o_x0 1 6 (va_A ([ol cL a 1 g] ++ (wO o cI cR cS x v tl)) sz) := by
  refine vx_ofWH (cc := cL_done) (maxL := 4) (ret := (some .int)) (hh := [(0, 9, 12, 13), (0, 9, 15, 15)]) (by decide) rfl ?_
  intro p e s m args below meth cd s₁ B hml hv
  obtain ⟨rfl, hsz, hP, hK, hD0, hG⟩ := hv
  have hx := B.exec
  have hb := B.bytes
  have hrt := B.returns
  have hts := atoms_spec (ws := wsL_done) B.pre
  have hown : s.vm.findClass RL = some m.cls := findClass_of_methodNamed B.named
  have hlocks := B.notSynchronized
  have htab := vx_table (x := yL_done) B (hts _ List.mem_cons_self)
  subst hsz
  have hD := hD0.self (sz := s.heap.size)
  generalize hAe : va_A ([ol cL a 1 g] ++ (wO o cI cR cS x v tl)) s.heap.size = A at hD hG ⊢
  have hA : ∀ q : Nat, s.heap.size ≤ q → A q := fun q h => by rw [← hAe]; exact Or.inr h
  have hS : va_S A s.heap s.heap [] := va_S.rf
  have hN := hG.1
  have hl := lv_entry ([.ref (o 0), .int (nI c), .ref a]) (n := 4) (Nat.le_of_ble_eq_true rfl)
  rw [lg_entry_eq]
  generalize (lg_sl ([.ref (o 0), .int (nI c), .ref a]) ++ List.replicate (4 - (lg_sl ([.ref (o 0), .int (nI c), .ref a])).length) Slot.unset).toArray = ls at hl ⊢
  have hl : lv_has ls 4 [(0, .ref (o 0)), (1, .int (nI c)), (2, .ref a)] := hl
  refine lv_aload_n hx hb dL_done_0 rfl (lv_at hl 2 rfl) ?_
  refine o_const (k := 0) hx hb dL_done_1 (by decide) ?_
  refine lv_aload_n hx hb dL_done_2 rfl (lv_at hl 0 rfl) ?_
  refine lv_iload_n hx hb dL_done_3 rfl (lv_at hl 1 rfl) ?_
  refine o_cx (E := nmI) (vx_runV (As := [.int (nI c)]) (rest := [.int (nI 0), .ref a]) ⟨hx, hb, hml, hown, hts⟩ (x_X4_done_1 l D cI cR cS cL hfl o x v tl b c (by first | assumption | omega) (by first | assumption | omega)) (cwV 1 hts gL_done_X4_done rfl rfl rfl (by decide +kernel) ⟨Nat.le_of_ble_eq_true rfl, Nat.le_of_ble_eq_true rfl⟩) (o_v (o_pE hK hG (o_PT (pre := [ol cL a 1 g]) (ws := (wO o cI cR cS x v tl)) hP)) (va_recv hK hP (ci := 4) (q0 := 1) rfl rfl)) rfl rfl hl.1 rfl (lv_room (Nat.le_of_ble_eq_true rfl)) dL_done_4 ⟨Nat.le_of_ble_eq_true rfl, Nat.le_of_ble_eq_true rfl⟩) hP hS (fun ce q9 H locs hP hS h1 h2 h3 => ?_)
  refine vx_catch (own := RL) (name := nmI) (E := nmI) hown [] ⟨0, 9, 12, 13⟩ [⟨0, 9, 15, 15⟩] htab (fun z hz => nomatch hz) (by decide) (by decide) (hts (.classLink RL 13 "java/lang/IndexOutOfBoundsException") (List.mem_of_getElem? (i := 1) (by decide +kernel))) (va_Nw.use (A := _) rfl hG.2.1.1.1) h1 h2 h3 ?_
  refine lv_astore_n (lv' := [(3, .ref q9), (0, .ref (o 0)), (1, .int (nI c)), (2, .ref a)]) hx hb dL_done_12 rfl hl (by decide) rfl (fun ls hl => ?_)
  refine o_const (k := 1) hx hb dL_done_13 (by decide) ?_
  exact vx_ret (W.iret (v := nI 1) hx hb hrt (fun t ht hW => ⟨⟨_, g, rfl, ⟨rfl, rfl⟩, by show va_P D vwCl _ t.heap; rw [ht]; exact hP⟩, hS.F ht⟩) hS.2.2 dL_done_14)
set_option maxHeartbeats 4000000 in
set_option maxRecDepth 100000 in
theorem l_done_2 (l : Launch) (D : va_G) (cI cR cS cL : ClassId) (hfl : l.stackTraces = false) (sz : Nat) (o : Nat → Nat) (x : Nat → Nat → Nat) (v : Nat → Nat → Nat) (tl : va_W) (b : Nat) (c : Nat) (a : Nat) (g : Nat → Int64) (hSI : s_I b v) (hb : b < 2 ^ 28) (hc : c < 3) (hbad : ¬ v 3 c = 0) : vx_Met l yL_done wsL_done ({ frames := 7, cells := 1, slots := 6, locals := 103 }) (va_Pc [.ref (o 0), .int (nI c), .ref a] (o_F D (o_T cI cR cS cL) ([ol cL a 1 g] ++ (wO o cI cR cS x v tl)) sz)) (va_Qi (fun rz (u : Nat → Int64) => rz = nI 2 ∧ u = g) (fun (u : Nat → Int64) t => va_P D vwCl ([ol cL a 1 u] ++ (wO o cI cR cS x v tl)) t.heap) (va_A ([ol cL a 1 g] ++ (wO o cI cR cS x v tl)) sz)) o_x0 1 6 (va_A ([ol cL a 1 g] ++ (wO o cI cR cS x v tl)) sz) := by
  refine vx_ofWH (cc := cL_done) (maxL := 4) (ret := (some .int)) (hh := [(0, 9, 12, 13), (0, 9, 15, 15)]) (by decide) rfl ?_
  intro p e s m args below meth cd s₁ B hml hv
  obtain ⟨rfl, hsz, hP, hK, hD0, hG⟩ := hv
  have hx := B.exec
  have hb := B.bytes
  have hrt := B.returns
  have hts := atoms_spec (ws := wsL_done) B.pre
  have hown : s.vm.findClass RL = some m.cls := findClass_of_methodNamed B.named
  have hlocks := B.notSynchronized
  have htab := vx_table (x := yL_done) B (hts _ List.mem_cons_self)
  subst hsz
  have hD := hD0.self (sz := s.heap.size)
  generalize hAe : va_A ([ol cL a 1 g] ++ (wO o cI cR cS x v tl)) s.heap.size = A at hD hG ⊢
  have hA : ∀ q : Nat, s.heap.size ≤ q → A q := fun q h => by rw [← hAe]; exact Or.inr h
  have hS : va_S A s.heap s.heap [] := va_S.rf
  have hN := hG.1
  have hl := lv_entry ([.ref (o 0), .int (nI c), .ref a]) (n := 4) (Nat.le_of_ble_eq_true rfl)
  rw [lg_entry_eq]
  generalize (lg_sl ([.ref (o 0), .int (nI c), .ref a]) ++ List.replicate (4 - (lg_sl ([.ref (o 0), .int (nI c), .ref a])).length) Slot.unset).toArray = ls at hl ⊢
  have hl : lv_has ls 4 [(0, .ref (o 0)), (1, .int (nI c)), (2, .ref a)] := hl
  refine lv_aload_n hx hb dL_done_0 rfl (lv_at hl 2 rfl) ?_
  refine o_const (k := 0) hx hb dL_done_1 (by decide) ?_
  refine lv_aload_n hx hb dL_done_2 rfl (lv_at hl 0 rfl) ?_
  refine lv_iload_n hx hb dL_done_3 rfl (lv_at hl 1 rfl) ?_
  refine o_cx (E := nmS) (vx_runV (As := [.int (nI c)]) (rest := [.int (nI 0), .ref a]) ⟨hx, hb, hml, hown, hts⟩ (x_X4_done_2 l D cI cR cS cL hfl o x v tl b c (by first | assumption | omega) (by first | assumption | omega) (by first | assumption | omega) (by first | assumption | omega)) (cwV 1 hts gL_done_X4_done rfl rfl rfl (by decide +kernel) ⟨Nat.le_of_ble_eq_true rfl, Nat.le_of_ble_eq_true rfl⟩) (o_v (o_pE hK hG (o_PT (pre := [ol cL a 1 g]) (ws := (wO o cI cR cS x v tl)) hP)) (va_recv hK hP (ci := 4) (q0 := 1) rfl rfl)) rfl rfl hl.1 rfl (lv_room (Nat.le_of_ble_eq_true rfl)) dL_done_4 ⟨Nat.le_of_ble_eq_true rfl, Nat.le_of_ble_eq_true rfl⟩) hP hS (fun ce q9 H locs hP hS h1 h2 h3 => ?_)
  refine vx_catch (own := RL) (name := nmS) (E := nmS) hown [⟨0, 9, 12, 13⟩] ⟨0, 9, 15, 15⟩ [] htab (List.forall_mem_cons.mpr ⟨Or.inr ⟨by decide, nmI, (hts (.classLink RL 13 "java/lang/IndexOutOfBoundsException") (List.mem_of_getElem? (i := 1) (by decide +kernel))), hG.2.1.2.1⟩, (fun _ h => nomatch h)⟩) (by decide) (by decide) (hts (.classLink RL 15 "java/lang/IllegalStateException") (List.mem_of_getElem? (i := 2) (by decide +kernel))) (va_Nw.use (A := _) rfl hG.2.1.1.2.2) h1 h2 h3 ?_
  refine lv_astore_n (lv' := [(3, .ref q9), (0, .ref (o 0)), (1, .int (nI c)), (2, .ref a)]) hx hb dL_done_15 rfl hl (by decide) rfl (fun ls hl => ?_)
  refine o_const (k := 2) hx hb dL_done_16 (by decide) ?_
  exact vx_ret (W.iret (v := nI 2) hx hb hrt (fun t ht hW => ⟨⟨_, g, rfl, ⟨rfl, rfl⟩, by show va_P D vwCl _ t.heap; rw [ht]; exact hP⟩, hS.F ht⟩) hS.2.2 dL_done_17)
set_option maxHeartbeats 4000000 in
set_option maxRecDepth 100000 in
theorem l_reader_0 (l : Launch) (D : va_G) (cI cR cS cL : ClassId) (sz : Nat) (o : Nat → Nat) (x : Nat → Nat → Nat) (v : Nat → Nat → Nat) (V : Nat → Nat → Nat → Nat) (b : Nat) (r : Nat) (h : Nat) (a : Nat) (g : Nat → Int64) (hSI : s_I b v) (hb : b < 2 ^ 28) (h3 : x 0 3 < 6) (h4 : x 0 4 ≤ 6) (hr : r < 4) (hh : h ≤ 1) : vx_Met l yL_reader wsL_reader ({ frames := 5, cells := 0, slots := 0, locals := 104 }) (va_Pc [.ref (o 0), .int (nI r), .int (nI h), .ref a] (o_F D (o_T cI cR cS cL) ([ol cL a 1 g] ++ (wO o cI cR cS x v (wV o cI cR V))) sz)) (va_Qi (fun rz (u : Nat → Int64) => rz = nI 0 ∧ u 0 = (nI ((v (5 + 3 * r) 0))).toInt64) (fun (u : Nat → Int64) t => va_P D vwCl ([ol cL a 1 u] ++ (wO o cI cR cS (va_up x 0 (c_sv (x 0))) (va_up v (5 + 3 * r) (r_anew (fun j => v (j + (5 + 3 * r))) h 0)) (wV o cI cR (c_put V ((x 0 3 + x 0 4) % 6) v)))) t.heap) (va_A ([ol cL a 1 g] ++ (wO o cI cR cS x v (wV o cI cR V))) sz)) o_x0 0 0 (va_A ([ol cL a 1 g] ++ (wO o cI cR cS x v (wV o cI cR V))) sz) := by
  refine vx_ofWH (cc := cL_reader) (maxL := 5) (ret := (some .int)) (hh := [(0, 10, 13, 13)]) (by decide) rfl ?_
  intro p e s m args below meth cd s₁ B hml hv
  obtain ⟨rfl, hsz, hP, hK, hD0, hG⟩ := hv
  have hx := B.exec
  have hb := B.bytes
  have hrt := B.returns
  have hts := atoms_spec (ws := wsL_reader) B.pre
  have hown : s.vm.findClass RL = some m.cls := findClass_of_methodNamed B.named
  have hlocks := B.notSynchronized
  have htab := vx_table (x := yL_reader) B (hts _ List.mem_cons_self)
  subst hsz
  have hD := hD0.self (sz := s.heap.size)
  generalize hAe : va_A ([ol cL a 1 g] ++ (wO o cI cR cS x v (wV o cI cR V))) s.heap.size = A at hD hG ⊢
  have hA : ∀ q : Nat, s.heap.size ≤ q → A q := fun q h => by rw [← hAe]; exact Or.inr h
  have hS : va_S A s.heap s.heap [] := va_S.rf
  have hN := hG.1
  have hl := lv_entry ([.ref (o 0), .int (nI r), .int (nI h), .ref a]) (n := 5) (Nat.le_of_ble_eq_true rfl)
  rw [lg_entry_eq]
  generalize (lg_sl ([.ref (o 0), .int (nI r), .int (nI h), .ref a]) ++ List.replicate (5 - (lg_sl ([.ref (o 0), .int (nI r), .int (nI h), .ref a])).length) Slot.unset).toArray = ls at hl ⊢
  have hl : lv_has ls 5 [(0, .ref (o 0)), (1, .int (nI r)), (2, .int (nI h)), (3, .ref a)] := hl
  refine lv_aload_n hx hb dL_reader_0 rfl (lv_at hl 3 rfl) ?_
  refine o_const (k := 0) hx hb dL_reader_1 (by decide) ?_
  refine lv_aload_n hx hb dL_reader_2 rfl (lv_at hl 0 rfl) ?_
  refine lv_iload_n hx hb dL_reader_3 rfl (lv_at hl 1 rfl) ?_
  refine lv_iload_n hx hb dL_reader_4 rfl (lv_at hl 2 rfl) ?_
  refine o_wiT [ol cL a 1 g] (va_runV (As := [.int (nI r), .int (nI h)]) (rest := [.int (nI 0), .ref a]) ⟨hx, hb, hml, hown, hts⟩ (k_X4_reader l D cI cR cS cL s.heap.size o x v V b r h (by first | assumption | omega) (by first | assumption | omega) (by first | assumption | omega) (by first | assumption | omega) (by first | assumption | omega) (by first | assumption | omega)) (cwV 2 hts gL_reader_X4_reader rfl rfl rfl (by decide +kernel) ⟨Nat.le_of_ble_eq_true rfl, Nat.le_of_ble_eq_true rfl⟩) (o_v (o_pB hK hN (o_PT (pre := [ol cL a 1 g]) (ws := (wO o cI cR cS x v (wV o cI cR V))) hP) (o_DT (pre := [ol cL a 1 g]) (ws := (wO o cI cR cS x v (wV o cI cR V))) hD)) (va_recv hK hP (ci := 4) (q0 := 1) rfl rfl)) rfl rfl hl.1 rfl (lv_room (Nat.le_of_ble_eq_true rfl)) dL_reader_5 ⟨Nat.zero_le _, Nat.zero_le _⟩) hP hD hS hA (fun _ => rfl) (fun r1 _ H locs e1 hP hD hS => ?_)
  have e1 : r1 = nI ((v (5 + 3 * r) 0)) := e1
  subst e1
  refine lv_i2l (v := (nI ((v (5 + 3 * r) 0))).toInt64) hx hb dL_reader_8 rfl ?_
  refine va_last (x := (nI ((v (5 + 3 * r) 0))).toInt64) hx hb hK hP hD hS 0 3 rfl rfl (vp_in_nI (by decide) (by decide)) dL_reader_9 (fun H locs hP hD hS => ?_)
  have hu : vp_updL g (nI 0).toNatClampNeg ((nI ((v (5 + 3 * r) 0))).toInt64) 0 = (nI ((v (5 + 3 * r) 0))).toInt64 := by rw [nI_clamp (show 0 < 2 ^ 31 by decide)]; exact if_pos rfl
  generalize vp_updL g (nI 0).toNatClampNeg ((nI ((v (5 + 3 * r) 0))).toInt64) = u at hu hP hD
  refine lv_goto (tgt := 17) hx hb dL_reader_10 (by decide) ?_
  refine o_const (k := 0) hx hb dL_reader_17 (by decide) ?_
  exact vx_ret (W.iret (v := nI 0) hx hb hrt (fun t ht hW => ⟨⟨_, u, rfl, ⟨rfl, hu⟩, by show va_P D vwCl _ t.heap; rw [ht]; exact hP⟩, hS.F ht⟩) hS.2.2 dL_reader_18)
set_option maxHeartbeats 4000000 in
set_option maxRecDepth 100000 in
theorem l_reader_1 (l : Launch) (D : va_G) (cI cR cS cL : ClassId) (hfl : l.stackTraces = false) (sz : Nat) (o : Nat → Nat) (x : Nat → Nat → Nat) (v : Nat → Nat → Nat) (tl : va_W) (b : Nat) (r : Nat) (h : Nat) (a : Nat) (g : Nat → Int64) (h0r : r < 2 ^ 32) (hbad : ¬ r < 4) : vx_Met l yL_reader wsL_reader ({ frames := 7, cells := 1, slots := 6, locals := 105 }) (va_Pc [.ref (o 0), .int (nI r), .int (nI h), .ref a] (o_F D (o_T cI cR cS cL) ([ol cL a 1 g] ++ (wO o cI cR cS x v tl)) sz)) (va_Qi (fun rz (u : Nat → Int64) => rz = nI 1 ∧ u = g) (fun (u : Nat → Int64) t => va_P D vwCl ([ol cL a 1 u] ++ (wO o cI cR cS x v tl)) t.heap) (va_A ([ol cL a 1 g] ++ (wO o cI cR cS x v tl)) sz)) o_x0 1 6 (va_A ([ol cL a 1 g] ++ (wO o cI cR cS x v tl)) sz) := by
  refine vx_ofWH (cc := cL_reader) (maxL := 5) (ret := (some .int)) (hh := [(0, 10, 13, 13)]) (by decide) rfl ?_
  intro p e s m args below meth cd s₁ B hml hv
  obtain ⟨rfl, hsz, hP, hK, hD0, hG⟩ := hv
  have hx := B.exec
  have hb := B.bytes
  have hrt := B.returns
  have hts := atoms_spec (ws := wsL_reader) B.pre
  have hown : s.vm.findClass RL = some m.cls := findClass_of_methodNamed B.named
  have hlocks := B.notSynchronized
  have htab := vx_table (x := yL_reader) B (hts _ List.mem_cons_self)
  subst hsz
  have hD := hD0.self (sz := s.heap.size)
  generalize hAe : va_A ([ol cL a 1 g] ++ (wO o cI cR cS x v tl)) s.heap.size = A at hD hG ⊢
  have hA : ∀ q : Nat, s.heap.size ≤ q → A q := fun q h => by rw [← hAe]; exact Or.inr h
  have hS : va_S A s.heap s.heap [] := va_S.rf
  have hN := hG.1
  have hl := lv_entry ([.ref (o 0), .int (nI r), .int (nI h), .ref a]) (n := 5) (Nat.le_of_ble_eq_true rfl)
  rw [lg_entry_eq]
  generalize (lg_sl ([.ref (o 0), .int (nI r), .int (nI h), .ref a]) ++ List.replicate (5 - (lg_sl ([.ref (o 0), .int (nI r), .int (nI h), .ref a])).length) Slot.unset).toArray = ls at hl ⊢
  have hl : lv_has ls 5 [(0, .ref (o 0)), (1, .int (nI r)), (2, .int (nI h)), (3, .ref a)] := hl
  refine lv_aload_n hx hb dL_reader_0 rfl (lv_at hl 3 rfl) ?_
  refine o_const (k := 0) hx hb dL_reader_1 (by decide) ?_
  refine lv_aload_n hx hb dL_reader_2 rfl (lv_at hl 0 rfl) ?_
  refine lv_iload_n hx hb dL_reader_3 rfl (lv_at hl 1 rfl) ?_
  refine lv_iload_n hx hb dL_reader_4 rfl (lv_at hl 2 rfl) ?_
  refine o_cx (E := nmI) (vx_runV (As := [.int (nI r), .int (nI h)]) (rest := [.int (nI 0), .ref a]) ⟨hx, hb, hml, hown, hts⟩ (x_X4_reader_1 l D cI cR cS cL hfl o x v tl b r h (by first | assumption | omega) (by first | assumption | omega)) (cwV 2 hts gL_reader_X4_reader rfl rfl rfl (by decide +kernel) ⟨Nat.le_of_ble_eq_true rfl, Nat.le_of_ble_eq_true rfl⟩) (o_v (o_pE hK hG (o_PT (pre := [ol cL a 1 g]) (ws := (wO o cI cR cS x v tl)) hP)) (va_recv hK hP (ci := 4) (q0 := 1) rfl rfl)) rfl rfl hl.1 rfl (lv_room (Nat.le_of_ble_eq_true rfl)) dL_reader_5 ⟨Nat.le_of_ble_eq_true rfl, Nat.le_of_ble_eq_true rfl⟩) hP hS (fun ce q9 H locs hP hS h1 h2 h3 => ?_)
  refine vx_catch (own := RL) (name := nmI) (E := nmI) hown [] ⟨0, 10, 13, 13⟩ [] htab (fun z hz => nomatch hz) (by decide) (by decide) (hts (.classLink RL 13 "java/lang/IndexOutOfBoundsException") (List.mem_of_getElem? (i := 1) (by decide +kernel))) (va_Nw.use (A := _) rfl hG.2.1.1.1) h1 h2 h3 ?_
  refine lv_astore (lv' := [(4, .ref q9), (0, .ref (o 0)), (1, .int (nI r)), (2, .int (nI h)), (3, .ref a)]) hx hb dL_reader_13 hl (by decide) rfl (fun ls hl => ?_)
  refine o_const (k := 1) hx hb dL_reader_15 (by decide) ?_
  exact vx_ret (W.iret (v := nI 1) hx hb hrt (fun t ht hW => ⟨⟨_, g, rfl, ⟨rfl, rfl⟩, by show va_P D vwCl _ t.heap; rw [ht]; exact hP⟩, hS.F ht⟩) hS.2.2 dL_reader_16)
set_option maxHeartbeats 4000000 in
set_option maxRecDepth 100000 in
theorem l_begin_0 (l : Launch) (D : va_G) (cI cR cS cL : ClassId) (sz : Nat) (o : Nat → Nat) (x : Nat → Nat → Nat) (v : Nat → Nat → Nat) (V : Nat → Nat → Nat → Nat) (b : Nat) (r : Nat) (a : Nat) (g : Nat → Int64) (hSI : s_I b v) (hb : b < 2 ^ 28) (h3 : x 0 3 < 6) (h4 : x 0 4 ≤ 6) (hr : r < 4) (hm : s_mb v r) : vx_Met l yL_begin wsL_begin ({ frames := 5, cells := 0, slots := 0, locals := 102 }) (va_Pc [.ref (o 0), .int (nI r), .ref a] (o_F D (o_T cI cR cS cL) ([ol cL a 1 g] ++ (wO o cI cR cS x v (wV o cI cR V))) sz)) (va_Qi (fun rz (u : Nat → Int64) => rz = nI 0 ∧ u 0 = (nI ((if s_wf v r then 0 else 1))).toInt64) (fun (u : Nat → Int64) t => va_P D vwCl ([ol cL a 1 u] ++ (wO o cI cR cS (va_up x 0 (c_sv (x 0))) (s_opn v r) (wV o cI cR (c_put V ((x 0 3 + x 0 4) % 6) v)))) t.heap) (va_A ([ol cL a 1 g] ++ (wO o cI cR cS x v (wV o cI cR V))) sz)) o_x0 0 0 (va_A ([ol cL a 1 g] ++ (wO o cI cR cS x v (wV o cI cR V))) sz) := by
  refine vx_ofWH (cc := cL_begin) (maxL := 4) (ret := (some .int)) (hh := [(0, 9, 12, 13), (0, 9, 15, 15)]) (by decide) rfl ?_
  intro p e s m args below meth cd s₁ B hml hv
  obtain ⟨rfl, hsz, hP, hK, hD0, hG⟩ := hv
  have hx := B.exec
  have hb := B.bytes
  have hrt := B.returns
  have hts := atoms_spec (ws := wsL_begin) B.pre
  have hown : s.vm.findClass RL = some m.cls := findClass_of_methodNamed B.named
  have hlocks := B.notSynchronized
  have htab := vx_table (x := yL_begin) B (hts _ List.mem_cons_self)
  subst hsz
  have hD := hD0.self (sz := s.heap.size)
  generalize hAe : va_A ([ol cL a 1 g] ++ (wO o cI cR cS x v (wV o cI cR V))) s.heap.size = A at hD hG ⊢
  have hA : ∀ q : Nat, s.heap.size ≤ q → A q := fun q h => by rw [← hAe]; exact Or.inr h
  have hS : va_S A s.heap s.heap [] := va_S.rf
  have hN := hG.1
  have hl := lv_entry ([.ref (o 0), .int (nI r), .ref a]) (n := 4) (Nat.le_of_ble_eq_true rfl)
  rw [lg_entry_eq]
  generalize (lg_sl ([.ref (o 0), .int (nI r), .ref a]) ++ List.replicate (4 - (lg_sl ([.ref (o 0), .int (nI r), .ref a])).length) Slot.unset).toArray = ls at hl ⊢
  have hl : lv_has ls 4 [(0, .ref (o 0)), (1, .int (nI r)), (2, .ref a)] := hl
  refine lv_aload_n hx hb dL_begin_0 rfl (lv_at hl 2 rfl) ?_
  refine o_const (k := 0) hx hb dL_begin_1 (by decide) ?_
  refine lv_aload_n hx hb dL_begin_2 rfl (lv_at hl 0 rfl) ?_
  refine lv_iload_n hx hb dL_begin_3 rfl (lv_at hl 1 rfl) ?_
  refine o_wiT [ol cL a 1 g] (va_runV (As := [.int (nI r)]) (rest := [.int (nI 0), .ref a]) ⟨hx, hb, hml, hown, hts⟩ (k_X4_begin l D cI cR cS cL s.heap.size o x v V b r (by first | assumption | omega) (by first | assumption | omega) (by first | assumption | omega) (by first | assumption | omega) (by first | assumption | omega) (by first | assumption | omega)) (cwV 1 hts gL_begin_X4_begin rfl rfl rfl (by decide +kernel) ⟨Nat.le_of_ble_eq_true rfl, Nat.le_of_ble_eq_true rfl⟩) (o_v (o_pB hK hN (o_PT (pre := [ol cL a 1 g]) (ws := (wO o cI cR cS x v (wV o cI cR V))) hP) (o_DT (pre := [ol cL a 1 g]) (ws := (wO o cI cR cS x v (wV o cI cR V))) hD)) (va_recv hK hP (ci := 4) (q0 := 1) rfl rfl)) rfl rfl hl.1 rfl (lv_room (Nat.le_of_ble_eq_true rfl)) dL_begin_4 ⟨Nat.zero_le _, Nat.zero_le _⟩) hP hD hS hA (fun _ => rfl) (fun r1 _ H locs e1 hP hD hS => ?_)
  have e1 : r1 = nI ((if s_wf v r then 0 else 1)) := e1
  subst e1
  refine lv_i2l (v := (nI ((if s_wf v r then 0 else 1))).toInt64) hx hb dL_begin_7 rfl ?_
  refine va_last (x := (nI ((if s_wf v r then 0 else 1))).toInt64) hx hb hK hP hD hS 0 3 rfl rfl (vp_in_nI (by decide) (by decide)) dL_begin_8 (fun H locs hP hD hS => ?_)
  have hu : vp_updL g (nI 0).toNatClampNeg ((nI ((if s_wf v r then 0 else 1))).toInt64) 0 = (nI ((if s_wf v r then 0 else 1))).toInt64 := by rw [nI_clamp (show 0 < 2 ^ 31 by decide)]; exact if_pos rfl
  generalize vp_updL g (nI 0).toNatClampNeg ((nI ((if s_wf v r then 0 else 1))).toInt64) = u at hu hP hD
  refine lv_goto (tgt := 18) hx hb dL_begin_9 (by decide) ?_
  refine o_const (k := 0) hx hb dL_begin_18 (by decide) ?_
  exact vx_ret (W.iret (v := nI 0) hx hb hrt (fun t ht hW => ⟨⟨_, u, rfl, ⟨rfl, hu⟩, by show va_P D vwCl _ t.heap; rw [ht]; exact hP⟩, hS.F ht⟩) hS.2.2 dL_begin_19)
set_option maxHeartbeats 4000000 in
set_option maxRecDepth 100000 in
theorem l_begin_1 (l : Launch) (D : va_G) (cI cR cS cL : ClassId) (hfl : l.stackTraces = false) (sz : Nat) (o : Nat → Nat) (x : Nat → Nat → Nat) (v : Nat → Nat → Nat) (tl : va_W) (b : Nat) (r : Nat) (a : Nat) (g : Nat → Int64) (h0r : r < 2 ^ 32) (hbad : ¬ r < 4) : vx_Met l yL_begin wsL_begin ({ frames := 7, cells := 1, slots := 6, locals := 103 }) (va_Pc [.ref (o 0), .int (nI r), .ref a] (o_F D (o_T cI cR cS cL) ([ol cL a 1 g] ++ (wO o cI cR cS x v tl)) sz)) (va_Qi (fun rz (u : Nat → Int64) => rz = nI 1 ∧ u = g) (fun (u : Nat → Int64) t => va_P D vwCl ([ol cL a 1 u] ++ (wO o cI cR cS x v tl)) t.heap) (va_A ([ol cL a 1 g] ++ (wO o cI cR cS x v tl)) sz)) o_x0 1 6 (va_A ([ol cL a 1 g] ++ (wO o cI cR cS x v tl)) sz) := by
  refine vx_ofWH (cc := cL_begin) (maxL := 4) (ret := (some .int)) (hh := [(0, 9, 12, 13), (0, 9, 15, 15)]) (by decide) rfl ?_
  intro p e s m args below meth cd s₁ B hml hv
  obtain ⟨rfl, hsz, hP, hK, hD0, hG⟩ := hv
  have hx := B.exec
  have hb := B.bytes
  have hrt := B.returns
  have hts := atoms_spec (ws := wsL_begin) B.pre
  have hown : s.vm.findClass RL = some m.cls := findClass_of_methodNamed B.named
  have hlocks := B.notSynchronized
  have htab := vx_table (x := yL_begin) B (hts _ List.mem_cons_self)
  subst hsz
  have hD := hD0.self (sz := s.heap.size)
  generalize hAe : va_A ([ol cL a 1 g] ++ (wO o cI cR cS x v tl)) s.heap.size = A at hD hG ⊢
  have hA : ∀ q : Nat, s.heap.size ≤ q → A q := fun q h => by rw [← hAe]; exact Or.inr h
  have hS : va_S A s.heap s.heap [] := va_S.rf
  have hN := hG.1
  have hl := lv_entry ([.ref (o 0), .int (nI r), .ref a]) (n := 4) (Nat.le_of_ble_eq_true rfl)
  rw [lg_entry_eq]
  generalize (lg_sl ([.ref (o 0), .int (nI r), .ref a]) ++ List.replicate (4 - (lg_sl ([.ref (o 0), .int (nI r), .ref a])).length) Slot.unset).toArray = ls at hl ⊢
  have hl : lv_has ls 4 [(0, .ref (o 0)), (1, .int (nI r)), (2, .ref a)] := hl
  refine lv_aload_n hx hb dL_begin_0 rfl (lv_at hl 2 rfl) ?_
  refine o_const (k := 0) hx hb dL_begin_1 (by decide) ?_
  refine lv_aload_n hx hb dL_begin_2 rfl (lv_at hl 0 rfl) ?_
  refine lv_iload_n hx hb dL_begin_3 rfl (lv_at hl 1 rfl) ?_
  refine o_cx (E := nmI) (vx_runV (As := [.int (nI r)]) (rest := [.int (nI 0), .ref a]) ⟨hx, hb, hml, hown, hts⟩ (x_X4_begin_1 l D cI cR cS cL hfl o x v tl b r (by first | assumption | omega) (by first | assumption | omega)) (cwV 1 hts gL_begin_X4_begin rfl rfl rfl (by decide +kernel) ⟨Nat.le_of_ble_eq_true rfl, Nat.le_of_ble_eq_true rfl⟩) (o_v (o_pE hK hG (o_PT (pre := [ol cL a 1 g]) (ws := (wO o cI cR cS x v tl)) hP)) (va_recv hK hP (ci := 4) (q0 := 1) rfl rfl)) rfl rfl hl.1 rfl (lv_room (Nat.le_of_ble_eq_true rfl)) dL_begin_4 ⟨Nat.le_of_ble_eq_true rfl, Nat.le_of_ble_eq_true rfl⟩) hP hS (fun ce q9 H locs hP hS h1 h2 h3 => ?_)
  refine vx_catch (own := RL) (name := nmI) (E := nmI) hown [] ⟨0, 9, 12, 13⟩ [⟨0, 9, 15, 15⟩] htab (fun z hz => nomatch hz) (by decide) (by decide) (hts (.classLink RL 13 "java/lang/IndexOutOfBoundsException") (List.mem_of_getElem? (i := 1) (by decide +kernel))) (va_Nw.use (A := _) rfl hG.2.1.1.1) h1 h2 h3 ?_
  refine lv_astore_n (lv' := [(3, .ref q9), (0, .ref (o 0)), (1, .int (nI r)), (2, .ref a)]) hx hb dL_begin_12 rfl hl (by decide) rfl (fun ls hl => ?_)
  refine o_const (k := 1) hx hb dL_begin_13 (by decide) ?_
  exact vx_ret (W.iret (v := nI 1) hx hb hrt (fun t ht hW => ⟨⟨_, g, rfl, ⟨rfl, rfl⟩, by show va_P D vwCl _ t.heap; rw [ht]; exact hP⟩, hS.F ht⟩) hS.2.2 dL_begin_14)
set_option maxHeartbeats 4000000 in
set_option maxRecDepth 100000 in
theorem l_begin_2 (l : Launch) (D : va_G) (cI cR cS cL : ClassId) (hfl : l.stackTraces = false) (sz : Nat) (o : Nat → Nat) (x : Nat → Nat → Nat) (v : Nat → Nat → Nat) (tl : va_W) (b : Nat) (r : Nat) (a : Nat) (g : Nat → Int64) (hSI : s_I b v) (hb : b < 2 ^ 28) (hr : r < 4) (hbad : ¬ s_mb v r) : vx_Met l yL_begin wsL_begin ({ frames := 7, cells := 1, slots := 6, locals := 103 }) (va_Pc [.ref (o 0), .int (nI r), .ref a] (o_F D (o_T cI cR cS cL) ([ol cL a 1 g] ++ (wO o cI cR cS x v tl)) sz)) (va_Qi (fun rz (u : Nat → Int64) => rz = nI 2 ∧ u = g) (fun (u : Nat → Int64) t => va_P D vwCl ([ol cL a 1 u] ++ (wO o cI cR cS x v tl)) t.heap) (va_A ([ol cL a 1 g] ++ (wO o cI cR cS x v tl)) sz)) o_x0 1 6 (va_A ([ol cL a 1 g] ++ (wO o cI cR cS x v tl)) sz) := by
  refine vx_ofWH (cc := cL_begin) (maxL := 4) (ret := (some .int)) (hh := [(0, 9, 12, 13), (0, 9, 15, 15)]) (by decide) rfl ?_
  intro p e s m args below meth cd s₁ B hml hv
  obtain ⟨rfl, hsz, hP, hK, hD0, hG⟩ := hv
  have hx := B.exec
  have hb := B.bytes
  have hrt := B.returns
  have hts := atoms_spec (ws := wsL_begin) B.pre
  have hown : s.vm.findClass RL = some m.cls := findClass_of_methodNamed B.named
  have hlocks := B.notSynchronized
  have htab := vx_table (x := yL_begin) B (hts _ List.mem_cons_self)
  subst hsz
  have hD := hD0.self (sz := s.heap.size)
  generalize hAe : va_A ([ol cL a 1 g] ++ (wO o cI cR cS x v tl)) s.heap.size = A at hD hG ⊢
  have hA : ∀ q : Nat, s.heap.size ≤ q → A q := fun q h => by rw [← hAe]; exact Or.inr h
  have hS : va_S A s.heap s.heap [] := va_S.rf
  have hN := hG.1
  have hl := lv_entry ([.ref (o 0), .int (nI r), .ref a]) (n := 4) (Nat.le_of_ble_eq_true rfl)
  rw [lg_entry_eq]
  generalize (lg_sl ([.ref (o 0), .int (nI r), .ref a]) ++ List.replicate (4 - (lg_sl ([.ref (o 0), .int (nI r), .ref a])).length) Slot.unset).toArray = ls at hl ⊢
  have hl : lv_has ls 4 [(0, .ref (o 0)), (1, .int (nI r)), (2, .ref a)] := hl
  refine lv_aload_n hx hb dL_begin_0 rfl (lv_at hl 2 rfl) ?_
  refine o_const (k := 0) hx hb dL_begin_1 (by decide) ?_
  refine lv_aload_n hx hb dL_begin_2 rfl (lv_at hl 0 rfl) ?_
  refine lv_iload_n hx hb dL_begin_3 rfl (lv_at hl 1 rfl) ?_
  refine o_cx (E := nmS) (vx_runV (As := [.int (nI r)]) (rest := [.int (nI 0), .ref a]) ⟨hx, hb, hml, hown, hts⟩ (x_X4_begin_2 l D cI cR cS cL hfl o x v tl b r (by first | assumption | omega) (by first | assumption | omega) (by first | assumption | omega) (by first | assumption | omega)) (cwV 1 hts gL_begin_X4_begin rfl rfl rfl (by decide +kernel) ⟨Nat.le_of_ble_eq_true rfl, Nat.le_of_ble_eq_true rfl⟩) (o_v (o_pE hK hG (o_PT (pre := [ol cL a 1 g]) (ws := (wO o cI cR cS x v tl)) hP)) (va_recv hK hP (ci := 4) (q0 := 1) rfl rfl)) rfl rfl hl.1 rfl (lv_room (Nat.le_of_ble_eq_true rfl)) dL_begin_4 ⟨Nat.le_of_ble_eq_true rfl, Nat.le_of_ble_eq_true rfl⟩) hP hS (fun ce q9 H locs hP hS h1 h2 h3 => ?_)
  refine vx_catch (own := RL) (name := nmS) (E := nmS) hown [⟨0, 9, 12, 13⟩] ⟨0, 9, 15, 15⟩ [] htab (List.forall_mem_cons.mpr ⟨Or.inr ⟨by decide, nmI, (hts (.classLink RL 13 "java/lang/IndexOutOfBoundsException") (List.mem_of_getElem? (i := 1) (by decide +kernel))), hG.2.1.2.1⟩, (fun _ h => nomatch h)⟩) (by decide) (by decide) (hts (.classLink RL 15 "java/lang/IllegalStateException") (List.mem_of_getElem? (i := 2) (by decide +kernel))) (va_Nw.use (A := _) rfl hG.2.1.1.2.2) h1 h2 h3 ?_
  refine lv_astore_n (lv' := [(3, .ref q9), (0, .ref (o 0)), (1, .int (nI r)), (2, .ref a)]) hx hb dL_begin_15 rfl hl (by decide) rfl (fun ls hl => ?_)
  refine o_const (k := 2) hx hb dL_begin_16 (by decide) ?_
  exact vx_ret (W.iret (v := nI 2) hx hb hrt (fun t ht hW => ⟨⟨_, g, rfl, ⟨rfl, rfl⟩, by show va_P D vwCl _ t.heap; rw [ht]; exact hP⟩, hS.F ht⟩) hS.2.2 dL_begin_17)
set_option maxHeartbeats 4000000 in
set_option maxRecDepth 100000 in
theorem l_look_0 (l : Launch) (D : va_G) (cI cR cS cL : ClassId) (sz : Nat) (o : Nat → Nat) (x : Nat → Nat → Nat) (v : Nat → Nat → Nat) (V : Nat → Nat → Nat → Nat) (b : Nat) (r : Nat) (a : Nat) (g : Nat → Int64) (hSI : s_I b v) (hb : b < 2 ^ 28) (h3 : x 0 3 < 6) (h4 : x 0 4 ≤ 6) (hr : r < 4) (hm : ¬ v (5 + 3 * r) 1 = 0) : vx_Met l yL_look wsL_look ({ frames := 5, cells := 0, slots := 0, locals := 108 }) (va_Pc [.ref (o 0), .int (nI r), .ref a] (o_F D (o_T cI cR cS cL) ([ol cL a 1 g] ++ (wO o cI cR cS x v (wV o cI cR V))) sz)) (va_Qi (fun rz (u : Nat → Int64) => rz = nI 0 ∧ u 0 = (nI ((s_glr v r))).toInt64) (fun (u : Nat → Int64) t => va_P D vwCl ([ol cL a 1 u] ++ (wO o cI cR cS (va_up x 0 (c_sv (x 0))) (s_gl v r) (wV o cI cR (c_put V ((x 0 3 + x 0 4) % 6) v)))) t.heap) (va_A ([ol cL a 1 g] ++ (wO o cI cR cS x v (wV o cI cR V))) sz)) o_x0 0 0 (va_A ([ol cL a 1 g] ++ (wO o cI cR cS x v (wV o cI cR V))) sz) := by
  refine vx_ofWH (cc := cL_look) (maxL := 4) (ret := (some .int)) (hh := [(0, 9, 12, 13), (0, 9, 15, 15)]) (by decide) rfl ?_
  intro p e s m args below meth cd s₁ B hml hv
  obtain ⟨rfl, hsz, hP, hK, hD0, hG⟩ := hv
  have hx := B.exec
  have hb := B.bytes
  have hrt := B.returns
  have hts := atoms_spec (ws := wsL_look) B.pre
  have hown : s.vm.findClass RL = some m.cls := findClass_of_methodNamed B.named
  have hlocks := B.notSynchronized
  have htab := vx_table (x := yL_look) B (hts _ List.mem_cons_self)
  subst hsz
  have hD := hD0.self (sz := s.heap.size)
  generalize hAe : va_A ([ol cL a 1 g] ++ (wO o cI cR cS x v (wV o cI cR V))) s.heap.size = A at hD hG ⊢
  have hA : ∀ q : Nat, s.heap.size ≤ q → A q := fun q h => by rw [← hAe]; exact Or.inr h
  have hS : va_S A s.heap s.heap [] := va_S.rf
  have hN := hG.1
  have hl := lv_entry ([.ref (o 0), .int (nI r), .ref a]) (n := 4) (Nat.le_of_ble_eq_true rfl)
  rw [lg_entry_eq]
  generalize (lg_sl ([.ref (o 0), .int (nI r), .ref a]) ++ List.replicate (4 - (lg_sl ([.ref (o 0), .int (nI r), .ref a])).length) Slot.unset).toArray = ls at hl ⊢
  have hl : lv_has ls 4 [(0, .ref (o 0)), (1, .int (nI r)), (2, .ref a)] := hl
  refine lv_aload_n hx hb dL_look_0 rfl (lv_at hl 2 rfl) ?_
  refine o_const (k := 0) hx hb dL_look_1 (by decide) ?_
  refine lv_aload_n hx hb dL_look_2 rfl (lv_at hl 0 rfl) ?_
  refine lv_iload_n hx hb dL_look_3 rfl (lv_at hl 1 rfl) ?_
  refine o_wiT [ol cL a 1 g] (va_runV (As := [.int (nI r)]) (rest := [.int (nI 0), .ref a]) ⟨hx, hb, hml, hown, hts⟩ (k_X4_look l D cI cR cS cL s.heap.size o x v V b r (by first | assumption | omega) (by first | assumption | omega) (by first | assumption | omega) (by first | assumption | omega) (by first | assumption | omega) (by first | assumption | omega)) (cwV 1 hts gL_look_X4_look rfl rfl rfl (by decide +kernel) ⟨Nat.le_of_ble_eq_true rfl, Nat.le_of_ble_eq_true rfl⟩) (o_v (o_pB hK hN (o_PT (pre := [ol cL a 1 g]) (ws := (wO o cI cR cS x v (wV o cI cR V))) hP) (o_DT (pre := [ol cL a 1 g]) (ws := (wO o cI cR cS x v (wV o cI cR V))) hD)) (va_recv hK hP (ci := 4) (q0 := 1) rfl rfl)) rfl rfl hl.1 rfl (lv_room (Nat.le_of_ble_eq_true rfl)) dL_look_4 ⟨Nat.zero_le _, Nat.zero_le _⟩) hP hD hS hA (fun _ => rfl) (fun r1 _ H locs e1 hP hD hS => ?_)
  have e1 : r1 = nI ((s_glr v r)) := e1
  subst e1
  refine lv_i2l (v := (nI ((s_glr v r))).toInt64) hx hb dL_look_7 rfl ?_
  refine va_last (x := (nI ((s_glr v r))).toInt64) hx hb hK hP hD hS 0 3 rfl rfl (vp_in_nI (by decide) (by decide)) dL_look_8 (fun H locs hP hD hS => ?_)
  have hu : vp_updL g (nI 0).toNatClampNeg ((nI ((s_glr v r))).toInt64) 0 = (nI ((s_glr v r))).toInt64 := by rw [nI_clamp (show 0 < 2 ^ 31 by decide)]; exact if_pos rfl
  generalize vp_updL g (nI 0).toNatClampNeg ((nI ((s_glr v r))).toInt64) = u at hu hP hD
  refine lv_goto (tgt := 18) hx hb dL_look_9 (by decide) ?_
  refine o_const (k := 0) hx hb dL_look_18 (by decide) ?_
  exact vx_ret (W.iret (v := nI 0) hx hb hrt (fun t ht hW => ⟨⟨_, u, rfl, ⟨rfl, hu⟩, by show va_P D vwCl _ t.heap; rw [ht]; exact hP⟩, hS.F ht⟩) hS.2.2 dL_look_19)
set_option maxHeartbeats 4000000 in
set_option maxRecDepth 100000 in
theorem l_look_1 (l : Launch) (D : va_G) (cI cR cS cL : ClassId) (hfl : l.stackTraces = false) (sz : Nat) (o : Nat → Nat) (x : Nat → Nat → Nat) (v : Nat → Nat → Nat) (tl : va_W) (b : Nat) (r : Nat) (a : Nat) (g : Nat → Int64) (h0r : r < 2 ^ 32) (hbad : ¬ r < 4) : vx_Met l yL_look wsL_look ({ frames := 7, cells := 1, slots := 6, locals := 103 }) (va_Pc [.ref (o 0), .int (nI r), .ref a] (o_F D (o_T cI cR cS cL) ([ol cL a 1 g] ++ (wO o cI cR cS x v tl)) sz)) (va_Qi (fun rz (u : Nat → Int64) => rz = nI 1 ∧ u = g) (fun (u : Nat → Int64) t => va_P D vwCl ([ol cL a 1 u] ++ (wO o cI cR cS x v tl)) t.heap) (va_A ([ol cL a 1 g] ++ (wO o cI cR cS x v tl)) sz)) o_x0 1 6 (va_A ([ol cL a 1 g] ++ (wO o cI cR cS x v tl)) sz) := by
  refine vx_ofWH (cc := cL_look) (maxL := 4) (ret := (some .int)) (hh := [(0, 9, 12, 13), (0, 9, 15, 15)]) (by decide) rfl ?_
  intro p e s m args below meth cd s₁ B hml hv
  obtain ⟨rfl, hsz, hP, hK, hD0, hG⟩ := hv
  have hx := B.exec
  have hb := B.bytes
  have hrt := B.returns
  have hts := atoms_spec (ws := wsL_look) B.pre
  have hown : s.vm.findClass RL = some m.cls := findClass_of_methodNamed B.named
  have hlocks := B.notSynchronized
  have htab := vx_table (x := yL_look) B (hts _ List.mem_cons_self)
  subst hsz
  have hD := hD0.self (sz := s.heap.size)
  generalize hAe : va_A ([ol cL a 1 g] ++ (wO o cI cR cS x v tl)) s.heap.size = A at hD hG ⊢
  have hA : ∀ q : Nat, s.heap.size ≤ q → A q := fun q h => by rw [← hAe]; exact Or.inr h
  have hS : va_S A s.heap s.heap [] := va_S.rf
  have hN := hG.1
  have hl := lv_entry ([.ref (o 0), .int (nI r), .ref a]) (n := 4) (Nat.le_of_ble_eq_true rfl)
  rw [lg_entry_eq]
  generalize (lg_sl ([.ref (o 0), .int (nI r), .ref a]) ++ List.replicate (4 - (lg_sl ([.ref (o 0), .int (nI r), .ref a])).length) Slot.unset).toArray = ls at hl ⊢
  have hl : lv_has ls 4 [(0, .ref (o 0)), (1, .int (nI r)), (2, .ref a)] := hl
  refine lv_aload_n hx hb dL_look_0 rfl (lv_at hl 2 rfl) ?_
  refine o_const (k := 0) hx hb dL_look_1 (by decide) ?_
  refine lv_aload_n hx hb dL_look_2 rfl (lv_at hl 0 rfl) ?_
  refine lv_iload_n hx hb dL_look_3 rfl (lv_at hl 1 rfl) ?_
  refine o_cx (E := nmI) (vx_runV (As := [.int (nI r)]) (rest := [.int (nI 0), .ref a]) ⟨hx, hb, hml, hown, hts⟩ (x_X4_look_1 l D cI cR cS cL hfl o x v tl b r (by first | assumption | omega) (by first | assumption | omega)) (cwV 1 hts gL_look_X4_look rfl rfl rfl (by decide +kernel) ⟨Nat.le_of_ble_eq_true rfl, Nat.le_of_ble_eq_true rfl⟩) (o_v (o_pE hK hG (o_PT (pre := [ol cL a 1 g]) (ws := (wO o cI cR cS x v tl)) hP)) (va_recv hK hP (ci := 4) (q0 := 1) rfl rfl)) rfl rfl hl.1 rfl (lv_room (Nat.le_of_ble_eq_true rfl)) dL_look_4 ⟨Nat.le_of_ble_eq_true rfl, Nat.le_of_ble_eq_true rfl⟩) hP hS (fun ce q9 H locs hP hS h1 h2 h3 => ?_)
  refine vx_catch (own := RL) (name := nmI) (E := nmI) hown [] ⟨0, 9, 12, 13⟩ [⟨0, 9, 15, 15⟩] htab (fun z hz => nomatch hz) (by decide) (by decide) (hts (.classLink RL 13 "java/lang/IndexOutOfBoundsException") (List.mem_of_getElem? (i := 1) (by decide +kernel))) (va_Nw.use (A := _) rfl hG.2.1.1.1) h1 h2 h3 ?_
  refine lv_astore_n (lv' := [(3, .ref q9), (0, .ref (o 0)), (1, .int (nI r)), (2, .ref a)]) hx hb dL_look_12 rfl hl (by decide) rfl (fun ls hl => ?_)
  refine o_const (k := 1) hx hb dL_look_13 (by decide) ?_
  exact vx_ret (W.iret (v := nI 1) hx hb hrt (fun t ht hW => ⟨⟨_, g, rfl, ⟨rfl, rfl⟩, by show va_P D vwCl _ t.heap; rw [ht]; exact hP⟩, hS.F ht⟩) hS.2.2 dL_look_14)
set_option maxHeartbeats 4000000 in
set_option maxRecDepth 100000 in
theorem l_look_2 (l : Launch) (D : va_G) (cI cR cS cL : ClassId) (hfl : l.stackTraces = false) (sz : Nat) (o : Nat → Nat) (x : Nat → Nat → Nat) (v : Nat → Nat → Nat) (tl : va_W) (b : Nat) (r : Nat) (a : Nat) (g : Nat → Int64) (hSI : s_I b v) (hb : b < 2 ^ 28) (hr : r < 4) (hbad : v (5 + 3 * r) 1 = 0) : vx_Met l yL_look wsL_look ({ frames := 7, cells := 1, slots := 6, locals := 103 }) (va_Pc [.ref (o 0), .int (nI r), .ref a] (o_F D (o_T cI cR cS cL) ([ol cL a 1 g] ++ (wO o cI cR cS x v tl)) sz)) (va_Qi (fun rz (u : Nat → Int64) => rz = nI 2 ∧ u = g) (fun (u : Nat → Int64) t => va_P D vwCl ([ol cL a 1 u] ++ (wO o cI cR cS x v tl)) t.heap) (va_A ([ol cL a 1 g] ++ (wO o cI cR cS x v tl)) sz)) o_x0 1 6 (va_A ([ol cL a 1 g] ++ (wO o cI cR cS x v tl)) sz) := by
  refine vx_ofWH (cc := cL_look) (maxL := 4) (ret := (some .int)) (hh := [(0, 9, 12, 13), (0, 9, 15, 15)]) (by decide) rfl ?_
  intro p e s m args below meth cd s₁ B hml hv
  obtain ⟨rfl, hsz, hP, hK, hD0, hG⟩ := hv
  have hx := B.exec
  have hb := B.bytes
  have hrt := B.returns
  have hts := atoms_spec (ws := wsL_look) B.pre
  have hown : s.vm.findClass RL = some m.cls := findClass_of_methodNamed B.named
  have hlocks := B.notSynchronized
  have htab := vx_table (x := yL_look) B (hts _ List.mem_cons_self)
  subst hsz
  have hD := hD0.self (sz := s.heap.size)
  generalize hAe : va_A ([ol cL a 1 g] ++ (wO o cI cR cS x v tl)) s.heap.size = A at hD hG ⊢
  have hA : ∀ q : Nat, s.heap.size ≤ q → A q := fun q h => by rw [← hAe]; exact Or.inr h
  have hS : va_S A s.heap s.heap [] := va_S.rf
  have hN := hG.1
  have hl := lv_entry ([.ref (o 0), .int (nI r), .ref a]) (n := 4) (Nat.le_of_ble_eq_true rfl)
  rw [lg_entry_eq]
  generalize (lg_sl ([.ref (o 0), .int (nI r), .ref a]) ++ List.replicate (4 - (lg_sl ([.ref (o 0), .int (nI r), .ref a])).length) Slot.unset).toArray = ls at hl ⊢
  have hl : lv_has ls 4 [(0, .ref (o 0)), (1, .int (nI r)), (2, .ref a)] := hl
  refine lv_aload_n hx hb dL_look_0 rfl (lv_at hl 2 rfl) ?_
  refine o_const (k := 0) hx hb dL_look_1 (by decide) ?_
  refine lv_aload_n hx hb dL_look_2 rfl (lv_at hl 0 rfl) ?_
  refine lv_iload_n hx hb dL_look_3 rfl (lv_at hl 1 rfl) ?_
  refine o_cx (E := nmS) (vx_runV (As := [.int (nI r)]) (rest := [.int (nI 0), .ref a]) ⟨hx, hb, hml, hown, hts⟩ (x_X4_look_2 l D cI cR cS cL hfl o x v tl b r (by first | assumption | omega) (by first | assumption | omega) (by first | assumption | omega) (by first | assumption | omega)) (cwV 1 hts gL_look_X4_look rfl rfl rfl (by decide +kernel) ⟨Nat.le_of_ble_eq_true rfl, Nat.le_of_ble_eq_true rfl⟩) (o_v (o_pE hK hG (o_PT (pre := [ol cL a 1 g]) (ws := (wO o cI cR cS x v tl)) hP)) (va_recv hK hP (ci := 4) (q0 := 1) rfl rfl)) rfl rfl hl.1 rfl (lv_room (Nat.le_of_ble_eq_true rfl)) dL_look_4 ⟨Nat.le_of_ble_eq_true rfl, Nat.le_of_ble_eq_true rfl⟩) hP hS (fun ce q9 H locs hP hS h1 h2 h3 => ?_)
  refine vx_catch (own := RL) (name := nmS) (E := nmS) hown [⟨0, 9, 12, 13⟩] ⟨0, 9, 15, 15⟩ [] htab (List.forall_mem_cons.mpr ⟨Or.inr ⟨by decide, nmI, (hts (.classLink RL 13 "java/lang/IndexOutOfBoundsException") (List.mem_of_getElem? (i := 1) (by decide +kernel))), hG.2.1.2.1⟩, (fun _ h => nomatch h)⟩) (by decide) (by decide) (hts (.classLink RL 15 "java/lang/IllegalStateException") (List.mem_of_getElem? (i := 2) (by decide +kernel))) (va_Nw.use (A := _) rfl hG.2.1.1.2.2) h1 h2 h3 ?_
  refine lv_astore_n (lv' := [(3, .ref q9), (0, .ref (o 0)), (1, .int (nI r)), (2, .ref a)]) hx hb dL_look_15 rfl hl (by decide) rfl (fun ls hl => ?_)
  refine o_const (k := 2) hx hb dL_look_16 (by decide) ?_
  exact vx_ret (W.iret (v := nI 2) hx hb hrt (fun t ht hW => ⟨⟨_, g, rfl, ⟨rfl, rfl⟩, by show va_P D vwCl _ t.heap; rw [ht]; exact hP⟩, hS.F ht⟩) hS.2.2 dL_look_17)
set_option maxHeartbeats 4000000 in
set_option maxRecDepth 100000 in
theorem l_set_0 (l : Launch) (D : va_G) (cI cR cS cL : ClassId) (sz : Nat) (o : Nat → Nat) (x : Nat → Nat → Nat) (v : Nat → Nat → Nat) (V : Nat → Nat → Nat → Nat) (b : Nat) (y : Nat) (a : Nat) (g : Nat → Int64) (hSI : s_I b v) (hb : b < 2 ^ 28) (h3 : x 0 3 < 6) (h4 : x 0 4 ≤ 6) (hy1 : 1 ≤ y) (hy2 : y ≤ 20) : vx_Met l yL_set wsL_set ({ frames := 5, cells := 0, slots := 0, locals := 103 }) (va_Pc [.ref (o 0), .int (nI y), .ref a] (o_F D (o_T cI cR cS cL) ([ol cL a 1 g] ++ (wO o cI cR cS x v (wV o cI cR V))) sz)) (va_Qi (fun rz (u : Nat → Int64) => rz = nI 0 ∧ u 0 = (nI ((v 0 2))).toInt64) (fun (u : Nat → Int64) t => va_P D vwCl ([ol cL a 1 u] ++ (wO o cI cR cS (va_up x 0 (c_sv (x 0))) (va_up v 0 (va_up (v 0) 2 y)) (wV o cI cR (c_put V ((x 0 3 + x 0 4) % 6) v)))) t.heap) (va_A ([ol cL a 1 g] ++ (wO o cI cR cS x v (wV o cI cR V))) sz)) o_x0 0 0 (va_A ([ol cL a 1 g] ++ (wO o cI cR cS x v (wV o cI cR V))) sz) := by
  refine vx_ofWH (cc := cL_set) (maxL := 4) (ret := (some .int)) (hh := [(0, 9, 12, 21)]) (by decide) rfl ?_
  intro p e s m args below meth cd s₁ B hml hv
  obtain ⟨rfl, hsz, hP, hK, hD0, hG⟩ := hv
  have hx := B.exec
  have hb := B.bytes
  have hrt := B.returns
  have hts := atoms_spec (ws := wsL_set) B.pre
  have hown : s.vm.findClass RL = some m.cls := findClass_of_methodNamed B.named
  have hlocks := B.notSynchronized
  have htab := vx_table (x := yL_set) B (hts _ List.mem_cons_self)
  subst hsz
  have hD := hD0.self (sz := s.heap.size)
  generalize hAe : va_A ([ol cL a 1 g] ++ (wO o cI cR cS x v (wV o cI cR V))) s.heap.size = A at hD hG ⊢
  have hA : ∀ q : Nat, s.heap.size ≤ q → A q := fun q h => by rw [← hAe]; exact Or.inr h
  have hS : va_S A s.heap s.heap [] := va_S.rf
  have hN := hG.1
  have hl := lv_entry ([.ref (o 0), .int (nI y), .ref a]) (n := 4) (Nat.le_of_ble_eq_true rfl)
  rw [lg_entry_eq]
  generalize (lg_sl ([.ref (o 0), .int (nI y), .ref a]) ++ List.replicate (4 - (lg_sl ([.ref (o 0), .int (nI y), .ref a])).length) Slot.unset).toArray = ls at hl ⊢
  have hl : lv_has ls 4 [(0, .ref (o 0)), (1, .int (nI y)), (2, .ref a)] := hl
  refine lv_aload_n hx hb dL_set_0 rfl (lv_at hl 2 rfl) ?_
  refine o_const (k := 0) hx hb dL_set_1 (by decide) ?_
  refine lv_aload_n hx hb dL_set_2 rfl (lv_at hl 0 rfl) ?_
  refine lv_iload_n hx hb dL_set_3 rfl (lv_at hl 1 rfl) ?_
  refine o_wiT [ol cL a 1 g] (va_runV (As := [.int (nI y)]) (rest := [.int (nI 0), .ref a]) ⟨hx, hb, hml, hown, hts⟩ (k_X4_set l D cI cR cS cL s.heap.size o x v V b y (by first | assumption | omega) (by first | assumption | omega) (by first | assumption | omega) (by first | assumption | omega) (by first | assumption | omega) (by first | assumption | omega)) (cwV 1 hts gL_set_X4_set rfl rfl rfl (by decide +kernel) ⟨Nat.le_of_ble_eq_true rfl, Nat.le_of_ble_eq_true rfl⟩) (o_v (o_pB hK hN (o_PT (pre := [ol cL a 1 g]) (ws := (wO o cI cR cS x v (wV o cI cR V))) hP) (o_DT (pre := [ol cL a 1 g]) (ws := (wO o cI cR cS x v (wV o cI cR V))) hD)) (va_recv hK hP (ci := 4) (q0 := 1) rfl rfl)) rfl rfl hl.1 rfl (lv_room (Nat.le_of_ble_eq_true rfl)) dL_set_4 ⟨Nat.zero_le _, Nat.zero_le _⟩) hP hD hS hA (fun _ => rfl) (fun r1 _ H locs e1 hP hD hS => ?_)
  have e1 : r1 = nI ((v 0 2)) := e1
  subst e1
  refine lv_i2l (v := (nI ((v 0 2))).toInt64) hx hb dL_set_7 rfl ?_
  refine va_last (x := (nI ((v 0 2))).toInt64) hx hb hK hP hD hS 0 3 rfl rfl (vp_in_nI (by decide) (by decide)) dL_set_8 (fun H locs hP hD hS => ?_)
  have hu : vp_updL g (nI 0).toNatClampNeg ((nI ((v 0 2))).toInt64) 0 = (nI ((v 0 2))).toInt64 := by rw [nI_clamp (show 0 < 2 ^ 31 by decide)]; exact if_pos rfl
  generalize vp_updL g (nI 0).toNatClampNeg ((nI ((v 0 2))).toInt64) = u at hu hP hD
  refine lv_goto (tgt := 15) hx hb dL_set_9 (by decide) ?_
  refine o_const (k := 0) hx hb dL_set_15 (by decide) ?_
  exact vx_ret (W.iret (v := nI 0) hx hb hrt (fun t ht hW => ⟨⟨_, u, rfl, ⟨rfl, hu⟩, by show va_P D vwCl _ t.heap; rw [ht]; exact hP⟩, hS.F ht⟩) hS.2.2 dL_set_16)
set_option maxHeartbeats 4000000 in
set_option maxRecDepth 100000 in
theorem l_set_1 (l : Launch) (D : va_G) (cI cR cS cL : ClassId) (hfl : l.stackTraces = false) (sz : Nat) (o : Nat → Nat) (x : Nat → Nat → Nat) (v : Nat → Nat → Nat) (tl : va_W) (b : Nat) (y : Nat) (a : Nat) (g : Nat → Int64) (h0y : y < 2 ^ 32) (hbad : ¬ (1 ≤ y ∧ y ≤ 20)) : vx_Met l yL_set wsL_set ({ frames := 7, cells := 1, slots := 6, locals := 104 }) (va_Pc [.ref (o 0), .int (nI y), .ref a] (o_F D (o_T cI cR cS cL) ([ol cL a 1 g] ++ (wO o cI cR cS x v tl)) sz)) (va_Qi (fun rz (u : Nat → Int64) => rz = nI 1 ∧ u = g) (fun (u : Nat → Int64) t => va_P D vwCl ([ol cL a 1 u] ++ (wO o cI cR cS x v tl)) t.heap) (va_A ([ol cL a 1 g] ++ (wO o cI cR cS x v tl)) sz)) o_x0 1 6 (va_A ([ol cL a 1 g] ++ (wO o cI cR cS x v tl)) sz) := by
  refine vx_ofWH (cc := cL_set) (maxL := 4) (ret := (some .int)) (hh := [(0, 9, 12, 21)]) (by decide) rfl ?_
  intro p e s m args below meth cd s₁ B hml hv
  obtain ⟨rfl, hsz, hP, hK, hD0, hG⟩ := hv
  have hx := B.exec
  have hb := B.bytes
  have hrt := B.returns
  have hts := atoms_spec (ws := wsL_set) B.pre
  have hown : s.vm.findClass RL = some m.cls := findClass_of_methodNamed B.named
  have hlocks := B.notSynchronized
  have htab := vx_table (x := yL_set) B (hts _ List.mem_cons_self)
  subst hsz
  have hD := hD0.self (sz := s.heap.size)
  generalize hAe : va_A ([ol cL a 1 g] ++ (wO o cI cR cS x v tl)) s.heap.size = A at hD hG ⊢
  have hA : ∀ q : Nat, s.heap.size ≤ q → A q := fun q h => by rw [← hAe]; exact Or.inr h
  have hS : va_S A s.heap s.heap [] := va_S.rf
  have hN := hG.1
  have hl := lv_entry ([.ref (o 0), .int (nI y), .ref a]) (n := 4) (Nat.le_of_ble_eq_true rfl)
  rw [lg_entry_eq]
  generalize (lg_sl ([.ref (o 0), .int (nI y), .ref a]) ++ List.replicate (4 - (lg_sl ([.ref (o 0), .int (nI y), .ref a])).length) Slot.unset).toArray = ls at hl ⊢
  have hl : lv_has ls 4 [(0, .ref (o 0)), (1, .int (nI y)), (2, .ref a)] := hl
  refine lv_aload_n hx hb dL_set_0 rfl (lv_at hl 2 rfl) ?_
  refine o_const (k := 0) hx hb dL_set_1 (by decide) ?_
  refine lv_aload_n hx hb dL_set_2 rfl (lv_at hl 0 rfl) ?_
  refine lv_iload_n hx hb dL_set_3 rfl (lv_at hl 1 rfl) ?_
  refine o_cx (E := nmA) (vx_runV (As := [.int (nI y)]) (rest := [.int (nI 0), .ref a]) ⟨hx, hb, hml, hown, hts⟩ (x_X4_set_1 l D cI cR cS cL hfl o x v tl b y (by first | assumption | omega) (by first | assumption | omega)) (cwV 1 hts gL_set_X4_set rfl rfl rfl (by decide +kernel) ⟨Nat.le_of_ble_eq_true rfl, Nat.le_of_ble_eq_true rfl⟩) (o_v (o_pE hK hG (o_PT (pre := [ol cL a 1 g]) (ws := (wO o cI cR cS x v tl)) hP)) (va_recv hK hP (ci := 4) (q0 := 1) rfl rfl)) rfl rfl hl.1 rfl (lv_room (Nat.le_of_ble_eq_true rfl)) dL_set_4 ⟨Nat.le_of_ble_eq_true rfl, Nat.le_of_ble_eq_true rfl⟩) hP hS (fun ce q9 H locs hP hS h1 h2 h3 => ?_)
  refine vx_catch (own := RL) (name := nmA) (E := nmA) hown [] ⟨0, 9, 12, 21⟩ [] htab (fun z hz => nomatch hz) (by decide) (by decide) (hts (.classLink RL 21 "java/lang/IllegalArgumentException") (List.mem_of_getElem? (i := 1) (by decide +kernel))) (va_Nw.use (A := _) rfl hG.2.1.1.2.1) h1 h2 h3 ?_
  refine lv_astore_n (lv' := [(3, .ref q9), (0, .ref (o 0)), (1, .int (nI y)), (2, .ref a)]) hx hb dL_set_12 rfl hl (by decide) rfl (fun ls hl => ?_)
  refine o_const (k := 1) hx hb dL_set_13 (by decide) ?_
  exact vx_ret (W.iret (v := nI 1) hx hb hrt (fun t ht hW => ⟨⟨_, g, rfl, ⟨rfl, rfl⟩, by show va_P D vwCl _ t.heap; rw [ht]; exact hP⟩, hS.F ht⟩) hS.2.2 dL_set_14)
set_option maxHeartbeats 4000000 in
set_option maxRecDepth 100000 in
theorem l_append_0 (l : Launch) (D : va_G) (cI cR cS cL : ClassId) (sz : Nat) (o : Nat → Nat) (x : Nat → Nat → Nat) (v : Nat → Nat → Nat) (tl : va_W) (b : Nat) (c : Nat) (a : Nat) (g : Nat → Int64) (hc : 33 ≤ c ∧ c ≤ 126) (h0 : x 0 0 < 60) (h2 : x 0 2 ≤ 6) : vx_Met l yL_append wsL_append ({ frames := 4, cells := 0, slots := 0, locals := 85 }) (va_Pc [.ref (o 0), .int (nI c), .ref a] (o_F D (o_T cI cR cS cL) ([ol cL a 1 g] ++ (wO o cI cR cS x v tl)) sz)) (va_Qi (fun rz (u : Nat → Int64) => rz = nI 0 ∧ u 0 = (nI ((x 0 0 + 1))).toInt64) (fun (u : Nat → Int64) t => va_P D vwCl ([ol cL a 1 u] ++ (wO o cI cR cS (t_add x c) v tl)) t.heap) (va_A ([ol cL a 1 g] ++ (wO o cI cR cS x v tl)) sz)) o_x0 0 0 (va_A ([ol cL a 1 g] ++ (wO o cI cR cS x v tl)) sz) := by
  refine vx_ofWH (cc := cL_append) (maxL := 4) (ret := (some .int)) (hh := [(0, 9, 12, 21), (0, 9, 15, 15)]) (by decide) rfl ?_
  intro p e s m args below meth cd s₁ B hml hv
  obtain ⟨rfl, hsz, hP, hK, hD0, hG⟩ := hv
  have hx := B.exec
  have hb := B.bytes
  have hrt := B.returns
  have hts := atoms_spec (ws := wsL_append) B.pre
  have hown : s.vm.findClass RL = some m.cls := findClass_of_methodNamed B.named
  have hlocks := B.notSynchronized
  have htab := vx_table (x := yL_append) B (hts _ List.mem_cons_self)
  subst hsz
  have hD := hD0.self (sz := s.heap.size)
  generalize hAe : va_A ([ol cL a 1 g] ++ (wO o cI cR cS x v tl)) s.heap.size = A at hD hG ⊢
  have hA : ∀ q : Nat, s.heap.size ≤ q → A q := fun q h => by rw [← hAe]; exact Or.inr h
  have hS : va_S A s.heap s.heap [] := va_S.rf
  have hN := hG.1
  have hl := lv_entry ([.ref (o 0), .int (nI c), .ref a]) (n := 4) (Nat.le_of_ble_eq_true rfl)
  rw [lg_entry_eq]
  generalize (lg_sl ([.ref (o 0), .int (nI c), .ref a]) ++ List.replicate (4 - (lg_sl ([.ref (o 0), .int (nI c), .ref a])).length) Slot.unset).toArray = ls at hl ⊢
  have hl : lv_has ls 4 [(0, .ref (o 0)), (1, .int (nI c)), (2, .ref a)] := hl
  refine lv_aload_n hx hb dL_append_0 rfl (lv_at hl 2 rfl) ?_
  refine o_const (k := 0) hx hb dL_append_1 (by decide) ?_
  refine lv_aload_n hx hb dL_append_2 rfl (lv_at hl 0 rfl) ?_
  refine lv_iload_n hx hb dL_append_3 rfl (lv_at hl 1 rfl) ?_
  refine o_wiT [ol cL a 1 g] (va_runV (As := [.int (nI c)]) (rest := [.int (nI 0), .ref a]) ⟨hx, hb, hml, hown, hts⟩ (k_X4_append l D cI cR cS cL s.heap.size o x v tl b c (by first | assumption | omega) (by first | assumption | omega) (by first | assumption | omega)) (cwV 1 hts gL_append_X4_append rfl rfl rfl (by decide +kernel) ⟨Nat.le_of_ble_eq_true rfl, Nat.le_of_ble_eq_true rfl⟩) (o_v (o_pB hK hN (o_PT (pre := [ol cL a 1 g]) (ws := (wO o cI cR cS x v tl)) hP) (o_DT (pre := [ol cL a 1 g]) (ws := (wO o cI cR cS x v tl)) hD)) (va_recv hK hP (ci := 4) (q0 := 1) rfl rfl)) rfl rfl hl.1 rfl (lv_room (Nat.le_of_ble_eq_true rfl)) dL_append_4 ⟨Nat.zero_le _, Nat.zero_le _⟩) hP hD hS hA (fun _ => rfl) (fun r1 _ H locs e1 hP hD hS => ?_)
  have e1 : r1 = nI ((x 0 0 + 1)) := e1
  subst e1
  refine lv_i2l (v := (nI ((x 0 0 + 1))).toInt64) hx hb dL_append_7 rfl ?_
  refine va_last (x := (nI ((x 0 0 + 1))).toInt64) hx hb hK hP hD hS 0 3 rfl rfl (vp_in_nI (by decide) (by decide)) dL_append_8 (fun H locs hP hD hS => ?_)
  have hu : vp_updL g (nI 0).toNatClampNeg ((nI ((x 0 0 + 1))).toInt64) 0 = (nI ((x 0 0 + 1))).toInt64 := by rw [nI_clamp (show 0 < 2 ^ 31 by decide)]; exact if_pos rfl
  generalize vp_updL g (nI 0).toNatClampNeg ((nI ((x 0 0 + 1))).toInt64) = u at hu hP hD
  refine lv_goto (tgt := 18) hx hb dL_append_9 (by decide) ?_
  refine o_const (k := 0) hx hb dL_append_18 (by decide) ?_
  exact vx_ret (W.iret (v := nI 0) hx hb hrt (fun t ht hW => ⟨⟨_, u, rfl, ⟨rfl, hu⟩, by show va_P D vwCl _ t.heap; rw [ht]; exact hP⟩, hS.F ht⟩) hS.2.2 dL_append_19)
set_option maxHeartbeats 4000000 in
set_option maxRecDepth 100000 in
theorem l_append_1 (l : Launch) (D : va_G) (cI cR cS cL : ClassId) (hfl : l.stackTraces = false) (sz : Nat) (o : Nat → Nat) (x : Nat → Nat → Nat) (v : Nat → Nat → Nat) (tl : va_W) (b : Nat) (c : Nat) (a : Nat) (g : Nat → Int64) (h0c : c < 2 ^ 32) (hbad : ¬ (33 ≤ c ∧ c ≤ 126)) : vx_Met l yL_append wsL_append ({ frames := 7, cells := 1, slots := 6, locals := 103 }) (va_Pc [.ref (o 0), .int (nI c), .ref a] (o_F D (o_T cI cR cS cL) ([ol cL a 1 g] ++ (wO o cI cR cS x v tl)) sz)) (va_Qi (fun rz (u : Nat → Int64) => rz = nI 1 ∧ u = g) (fun (u : Nat → Int64) t => va_P D vwCl ([ol cL a 1 u] ++ (wO o cI cR cS x v tl)) t.heap) (va_A ([ol cL a 1 g] ++ (wO o cI cR cS x v tl)) sz)) o_x0 1 6 (va_A ([ol cL a 1 g] ++ (wO o cI cR cS x v tl)) sz) := by
  refine vx_ofWH (cc := cL_append) (maxL := 4) (ret := (some .int)) (hh := [(0, 9, 12, 21), (0, 9, 15, 15)]) (by decide) rfl ?_
  intro p e s m args below meth cd s₁ B hml hv
  obtain ⟨rfl, hsz, hP, hK, hD0, hG⟩ := hv
  have hx := B.exec
  have hb := B.bytes
  have hrt := B.returns
  have hts := atoms_spec (ws := wsL_append) B.pre
  have hown : s.vm.findClass RL = some m.cls := findClass_of_methodNamed B.named
  have hlocks := B.notSynchronized
  have htab := vx_table (x := yL_append) B (hts _ List.mem_cons_self)
  subst hsz
  have hD := hD0.self (sz := s.heap.size)
  generalize hAe : va_A ([ol cL a 1 g] ++ (wO o cI cR cS x v tl)) s.heap.size = A at hD hG ⊢
  have hA : ∀ q : Nat, s.heap.size ≤ q → A q := fun q h => by rw [← hAe]; exact Or.inr h
  have hS : va_S A s.heap s.heap [] := va_S.rf
  have hN := hG.1
  have hl := lv_entry ([.ref (o 0), .int (nI c), .ref a]) (n := 4) (Nat.le_of_ble_eq_true rfl)
  rw [lg_entry_eq]
  generalize (lg_sl ([.ref (o 0), .int (nI c), .ref a]) ++ List.replicate (4 - (lg_sl ([.ref (o 0), .int (nI c), .ref a])).length) Slot.unset).toArray = ls at hl ⊢
  have hl : lv_has ls 4 [(0, .ref (o 0)), (1, .int (nI c)), (2, .ref a)] := hl
  refine lv_aload_n hx hb dL_append_0 rfl (lv_at hl 2 rfl) ?_
  refine o_const (k := 0) hx hb dL_append_1 (by decide) ?_
  refine lv_aload_n hx hb dL_append_2 rfl (lv_at hl 0 rfl) ?_
  refine lv_iload_n hx hb dL_append_3 rfl (lv_at hl 1 rfl) ?_
  refine o_cx (E := nmA) (vx_runV (As := [.int (nI c)]) (rest := [.int (nI 0), .ref a]) ⟨hx, hb, hml, hown, hts⟩ (x_X4_append_1 l D cI cR cS cL hfl o x v tl b c (by first | assumption | omega) (by first | assumption | omega)) (cwV 1 hts gL_append_X4_append rfl rfl rfl (by decide +kernel) ⟨Nat.le_of_ble_eq_true rfl, Nat.le_of_ble_eq_true rfl⟩) (o_v (o_pE hK hG (o_PT (pre := [ol cL a 1 g]) (ws := (wO o cI cR cS x v tl)) hP)) (va_recv hK hP (ci := 4) (q0 := 1) rfl rfl)) rfl rfl hl.1 rfl (lv_room (Nat.le_of_ble_eq_true rfl)) dL_append_4 ⟨Nat.le_of_ble_eq_true rfl, Nat.le_of_ble_eq_true rfl⟩) hP hS (fun ce q9 H locs hP hS h1 h2 h3 => ?_)
  refine vx_catch (own := RL) (name := nmA) (E := nmA) hown [] ⟨0, 9, 12, 21⟩ [⟨0, 9, 15, 15⟩] htab (fun z hz => nomatch hz) (by decide) (by decide) (hts (.classLink RL 21 "java/lang/IllegalArgumentException") (List.mem_of_getElem? (i := 1) (by decide +kernel))) (va_Nw.use (A := _) rfl hG.2.1.1.2.1) h1 h2 h3 ?_
  refine lv_astore_n (lv' := [(3, .ref q9), (0, .ref (o 0)), (1, .int (nI c)), (2, .ref a)]) hx hb dL_append_12 rfl hl (by decide) rfl (fun ls hl => ?_)
  refine o_const (k := 1) hx hb dL_append_13 (by decide) ?_
  exact vx_ret (W.iret (v := nI 1) hx hb hrt (fun t ht hW => ⟨⟨_, g, rfl, ⟨rfl, rfl⟩, by show va_P D vwCl _ t.heap; rw [ht]; exact hP⟩, hS.F ht⟩) hS.2.2 dL_append_14)
set_option maxHeartbeats 4000000 in
set_option maxRecDepth 100000 in
theorem l_append_2 (l : Launch) (D : va_G) (cI cR cS cL : ClassId) (hfl : l.stackTraces = false) (sz : Nat) (o : Nat → Nat) (x : Nat → Nat → Nat) (v : Nat → Nat → Nat) (tl : va_W) (b : Nat) (c : Nat) (a : Nat) (g : Nat → Int64) (hc : 33 ≤ c ∧ c ≤ 126) (h0 : x 0 0 < 2 ^ 31) (hbad : ¬ x 0 0 < 60) : vx_Met l yL_append wsL_append ({ frames := 7, cells := 1, slots := 6, locals := 103 }) (va_Pc [.ref (o 0), .int (nI c), .ref a] (o_F D (o_T cI cR cS cL) ([ol cL a 1 g] ++ (wO o cI cR cS x v tl)) sz)) (va_Qi (fun rz (u : Nat → Int64) => rz = nI 2 ∧ u = g) (fun (u : Nat → Int64) t => va_P D vwCl ([ol cL a 1 u] ++ (wO o cI cR cS x v tl)) t.heap) (va_A ([ol cL a 1 g] ++ (wO o cI cR cS x v tl)) sz)) o_x0 1 6 (va_A ([ol cL a 1 g] ++ (wO o cI cR cS x v tl)) sz) := by
  refine vx_ofWH (cc := cL_append) (maxL := 4) (ret := (some .int)) (hh := [(0, 9, 12, 21), (0, 9, 15, 15)]) (by decide) rfl ?_
  intro p e s m args below meth cd s₁ B hml hv
  obtain ⟨rfl, hsz, hP, hK, hD0, hG⟩ := hv
  have hx := B.exec
  have hb := B.bytes
  have hrt := B.returns
  have hts := atoms_spec (ws := wsL_append) B.pre
  have hown : s.vm.findClass RL = some m.cls := findClass_of_methodNamed B.named
  have hlocks := B.notSynchronized
  have htab := vx_table (x := yL_append) B (hts _ List.mem_cons_self)
  subst hsz
  have hD := hD0.self (sz := s.heap.size)
  generalize hAe : va_A ([ol cL a 1 g] ++ (wO o cI cR cS x v tl)) s.heap.size = A at hD hG ⊢
  have hA : ∀ q : Nat, s.heap.size ≤ q → A q := fun q h => by rw [← hAe]; exact Or.inr h
  have hS : va_S A s.heap s.heap [] := va_S.rf
  have hN := hG.1
  have hl := lv_entry ([.ref (o 0), .int (nI c), .ref a]) (n := 4) (Nat.le_of_ble_eq_true rfl)
  rw [lg_entry_eq]
  generalize (lg_sl ([.ref (o 0), .int (nI c), .ref a]) ++ List.replicate (4 - (lg_sl ([.ref (o 0), .int (nI c), .ref a])).length) Slot.unset).toArray = ls at hl ⊢
  have hl : lv_has ls 4 [(0, .ref (o 0)), (1, .int (nI c)), (2, .ref a)] := hl
  refine lv_aload_n hx hb dL_append_0 rfl (lv_at hl 2 rfl) ?_
  refine o_const (k := 0) hx hb dL_append_1 (by decide) ?_
  refine lv_aload_n hx hb dL_append_2 rfl (lv_at hl 0 rfl) ?_
  refine lv_iload_n hx hb dL_append_3 rfl (lv_at hl 1 rfl) ?_
  refine o_cx (E := nmS) (vx_runV (As := [.int (nI c)]) (rest := [.int (nI 0), .ref a]) ⟨hx, hb, hml, hown, hts⟩ (x_X4_append_2 l D cI cR cS cL hfl o x v tl b c (by first | assumption | omega) (by first | assumption | omega) (by first | assumption | omega)) (cwV 1 hts gL_append_X4_append rfl rfl rfl (by decide +kernel) ⟨Nat.le_of_ble_eq_true rfl, Nat.le_of_ble_eq_true rfl⟩) (o_v (o_pE hK hG (o_PT (pre := [ol cL a 1 g]) (ws := (wO o cI cR cS x v tl)) hP)) (va_recv hK hP (ci := 4) (q0 := 1) rfl rfl)) rfl rfl hl.1 rfl (lv_room (Nat.le_of_ble_eq_true rfl)) dL_append_4 ⟨Nat.le_of_ble_eq_true rfl, Nat.le_of_ble_eq_true rfl⟩) hP hS (fun ce q9 H locs hP hS h1 h2 h3 => ?_)
  refine vx_catch (own := RL) (name := nmS) (E := nmS) hown [⟨0, 9, 12, 21⟩] ⟨0, 9, 15, 15⟩ [] htab (List.forall_mem_cons.mpr ⟨Or.inr ⟨by decide, nmA, (hts (.classLink RL 21 "java/lang/IllegalArgumentException") (List.mem_of_getElem? (i := 1) (by decide +kernel))), hG.2.1.2.2.2.1⟩, (fun _ h => nomatch h)⟩) (by decide) (by decide) (hts (.classLink RL 15 "java/lang/IllegalStateException") (List.mem_of_getElem? (i := 2) (by decide +kernel))) (va_Nw.use (A := _) rfl hG.2.1.1.2.2) h1 h2 h3 ?_
  refine lv_astore_n (lv' := [(3, .ref q9), (0, .ref (o 0)), (1, .int (nI c)), (2, .ref a)]) hx hb dL_append_15 rfl hl (by decide) rfl (fun ls hl => ?_)
  refine o_const (k := 2) hx hb dL_append_16 (by decide) ?_
  exact vx_ret (W.iret (v := nI 2) hx hb hrt (fun t ht hW => ⟨⟨_, g, rfl, ⟨rfl, rfl⟩, by show va_P D vwCl _ t.heap; rw [ht]; exact hP⟩, hS.F ht⟩) hS.2.2 dL_append_17)
set_option maxHeartbeats 4000000 in
set_option maxRecDepth 100000 in
theorem l_play_0 (l : Launch) (D : va_G) (cI cR cS cL : ClassId) (sz : Nat) (o : Nat → Nat) (x : Nat → Nat → Nat) (v : Nat → Nat → Nat) (V : Nat → Nat → Nat → Nat) (b : Nat) (a : Nat) (g : Nat → Int64) (hSI : s_I b v) (hb : b < 2 ^ 27) (h3 : x 0 3 < 6) (h4 : x 0 4 ≤ 6) (h0 : x 0 0 ≤ 60) (h00 : 0 < x 0 0) (h2 : x 0 2 = 0) (ht : ∀ k, x 1 k < 2 ^ 31) (hgd : ∀ i, i < (c_sv (x 0)) 0 → 97 ≤ t_code (va_up x 0 (c_sv (x 0))) i → c_sh (t_code (va_up x 0 (c_sv (x 0))) i) (t_dig (va_up x 0 (c_sv (x 0))) (i + 1))) (hc0 : c_sv (x 0) 0 = x 0 0) : vx_Met l yL_play wsL_play ({ frames := 7, cells := 0, slots := 0, locals := 153 }) (va_Pc [.ref (o 0), .ref a] (o_F D (o_T cI cR cS cL) ([ol cL a 1 g] ++ (wO o cI cR cS x v (wV o cI cR V))) sz)) (va_Qi (fun rz (u : Nat → Int64) => rz = nI 0 ∧ u 0 = (nI ((c_runs (va_up x 0 (c_sv (x 0))) v).2)).toInt64) (fun (u : Nat → Int64) t => va_P D vwCl ([ol cL a 1 u] ++ (wO o cI cR cS (t_empty (va_up x 0 (c_sv (x 0)))) (c_runs (va_up x 0 (c_sv (x 0))) v).1 (wV o cI cR (c_put V ((x 0 3 + x 0 4) % 6) v)))) t.heap) (va_A ([ol cL a 1 g] ++ (wO o cI cR cS x v (wV o cI cR V))) sz)) o_x0 0 0 (va_A ([ol cL a 1 g] ++ (wO o cI cR cS x v (wV o cI cR V))) sz) := by
  refine vx_ofWH (cc := cL_play) (maxL := 3) (ret := (some .int)) (hh := [(0, 8, 11, 21)]) (by decide) rfl ?_
  intro p e s m args below meth cd s₁ B hml hv
  obtain ⟨rfl, hsz, hP, hK, hD0, hG⟩ := hv
  have hx := B.exec
  have hb := B.bytes
  have hrt := B.returns
  have hts := atoms_spec (ws := wsL_play) B.pre
  have hown : s.vm.findClass RL = some m.cls := findClass_of_methodNamed B.named
  have hlocks := B.notSynchronized
  have htab := vx_table (x := yL_play) B (hts _ List.mem_cons_self)
  subst hsz
  have hD := hD0.self (sz := s.heap.size)
  generalize hAe : va_A ([ol cL a 1 g] ++ (wO o cI cR cS x v (wV o cI cR V))) s.heap.size = A at hD hG ⊢
  have hA : ∀ q : Nat, s.heap.size ≤ q → A q := fun q h => by rw [← hAe]; exact Or.inr h
  have hS : va_S A s.heap s.heap [] := va_S.rf
  have hN := hG.1
  have hl := lv_entry ([.ref (o 0), .ref a]) (n := 3) (Nat.le_of_ble_eq_true rfl)
  rw [lg_entry_eq]
  generalize (lg_sl ([.ref (o 0), .ref a]) ++ List.replicate (3 - (lg_sl ([.ref (o 0), .ref a])).length) Slot.unset).toArray = ls at hl ⊢
  have hl : lv_has ls 3 [(0, .ref (o 0)), (1, .ref a)] := hl
  refine lv_aload_n hx hb dL_play_0 rfl (lv_at hl 1 rfl) ?_
  refine o_const (k := 0) hx hb dL_play_1 (by decide) ?_
  refine lv_aload_n hx hb dL_play_2 rfl (lv_at hl 0 rfl) ?_
  refine o_wiT [ol cL a 1 g] (va_runV (As := []) (rest := [.int (nI 0), .ref a]) ⟨hx, hb, hml, hown, hts⟩ (k_X4_play l D cI cR cS cL s.heap.size o x v V b (by first | assumption | omega) (by first | assumption | omega) (by first | assumption | omega) (by first | assumption | omega) (by first | assumption | omega) (by first | assumption | omega) (by first | assumption | omega) (by first | assumption | omega) (by first | assumption | omega) (by first | assumption | omega)) (cwV 0 hts gL_play_X4_play rfl rfl rfl (by decide +kernel) ⟨Nat.le_of_ble_eq_true rfl, Nat.le_of_ble_eq_true rfl⟩) (o_v (o_pB hK hN (o_PT (pre := [ol cL a 1 g]) (ws := (wO o cI cR cS x v (wV o cI cR V))) hP) (o_DT (pre := [ol cL a 1 g]) (ws := (wO o cI cR cS x v (wV o cI cR V))) hD)) (va_recv hK hP (ci := 4) (q0 := 1) rfl rfl)) rfl rfl hl.1 rfl (lv_room (Nat.le_of_ble_eq_true rfl)) dL_play_3 ⟨Nat.zero_le _, Nat.zero_le _⟩) hP hD hS hA (fun _ => rfl) (fun r1 _ H locs e1 hP hD hS => ?_)
  have e1 : r1 = nI ((c_runs (va_up x 0 (c_sv (x 0))) v).2) := e1
  subst e1
  refine lv_i2l (v := (nI ((c_runs (va_up x 0 (c_sv (x 0))) v).2)).toInt64) hx hb dL_play_6 rfl ?_
  refine va_last (x := (nI ((c_runs (va_up x 0 (c_sv (x 0))) v).2)).toInt64) hx hb hK hP hD hS 0 3 rfl rfl (vp_in_nI (by decide) (by decide)) dL_play_7 (fun H locs hP hD hS => ?_)
  have hu : vp_updL g (nI 0).toNatClampNeg ((nI ((c_runs (va_up x 0 (c_sv (x 0))) v).2)).toInt64) 0 = (nI ((c_runs (va_up x 0 (c_sv (x 0))) v).2)).toInt64 := by rw [nI_clamp (show 0 < 2 ^ 31 by decide)]; exact if_pos rfl
  generalize vp_updL g (nI 0).toNatClampNeg ((nI ((c_runs (va_up x 0 (c_sv (x 0))) v).2)).toInt64) = u at hu hP hD
  refine lv_goto (tgt := 14) hx hb dL_play_8 (by decide) ?_
  refine o_const (k := 0) hx hb dL_play_14 (by decide) ?_
  exact vx_ret (W.iret (v := nI 0) hx hb hrt (fun t ht hW => ⟨⟨_, u, rfl, ⟨rfl, hu⟩, by show va_P D vwCl _ t.heap; rw [ht]; exact hP⟩, hS.F ht⟩) hS.2.2 dL_play_15)
set_option maxHeartbeats 4000000 in
set_option maxRecDepth 100000 in
theorem l_play_1 (l : Launch) (D : va_G) (cI cR cS cL : ClassId) (hfl : l.stackTraces = false) (sz : Nat) (o : Nat → Nat) (x : Nat → Nat → Nat) (v : Nat → Nat → Nat) (tl : va_W) (b : Nat) (a : Nat) (g : Nat → Int64) (h0 : x 0 0 ≤ 60) (h2 : x 0 2 ≤ 6) (hbad : ¬ (0 < x 0 0 ∧ x 0 2 = 0)) : vx_Met l yL_play wsL_play ({ frames := 7, cells := 1, slots := 6, locals := 103 }) (va_Pc [.ref (o 0), .ref a] (o_F D (o_T cI cR cS cL) ([ol cL a 1 g] ++ (wO o cI cR cS x v tl)) sz)) (va_Qi (fun rz (u : Nat → Int64) => rz = nI 1 ∧ u = g) (fun (u : Nat → Int64) t => va_P D vwCl ([ol cL a 1 u] ++ (wO o cI cR cS x v tl)) t.heap) (va_A ([ol cL a 1 g] ++ (wO o cI cR cS x v tl)) sz)) o_x0 1 6 (va_A ([ol cL a 1 g] ++ (wO o cI cR cS x v tl)) sz) := by
  refine vx_ofWH (cc := cL_play) (maxL := 3) (ret := (some .int)) (hh := [(0, 8, 11, 21)]) (by decide) rfl ?_
  intro p e s m args below meth cd s₁ B hml hv
  obtain ⟨rfl, hsz, hP, hK, hD0, hG⟩ := hv
  have hx := B.exec
  have hb := B.bytes
  have hrt := B.returns
  have hts := atoms_spec (ws := wsL_play) B.pre
  have hown : s.vm.findClass RL = some m.cls := findClass_of_methodNamed B.named
  have hlocks := B.notSynchronized
  have htab := vx_table (x := yL_play) B (hts _ List.mem_cons_self)
  subst hsz
  have hD := hD0.self (sz := s.heap.size)
  generalize hAe : va_A ([ol cL a 1 g] ++ (wO o cI cR cS x v tl)) s.heap.size = A at hD hG ⊢
  have hA : ∀ q : Nat, s.heap.size ≤ q → A q := fun q h => by rw [← hAe]; exact Or.inr h
  have hS : va_S A s.heap s.heap [] := va_S.rf
  have hN := hG.1
  have hl := lv_entry ([.ref (o 0), .ref a]) (n := 3) (Nat.le_of_ble_eq_true rfl)
  rw [lg_entry_eq]
  generalize (lg_sl ([.ref (o 0), .ref a]) ++ List.replicate (3 - (lg_sl ([.ref (o 0), .ref a])).length) Slot.unset).toArray = ls at hl ⊢
  have hl : lv_has ls 3 [(0, .ref (o 0)), (1, .ref a)] := hl
  refine lv_aload_n hx hb dL_play_0 rfl (lv_at hl 1 rfl) ?_
  refine o_const (k := 0) hx hb dL_play_1 (by decide) ?_
  refine lv_aload_n hx hb dL_play_2 rfl (lv_at hl 0 rfl) ?_
  refine o_cx (E := nmA) (vx_runV (As := []) (rest := [.int (nI 0), .ref a]) ⟨hx, hb, hml, hown, hts⟩ (x_X4_play_1 l D cI cR cS cL hfl o x v tl b (by first | assumption | omega) (by first | assumption | omega) (by first | assumption | omega)) (cwV 0 hts gL_play_X4_play rfl rfl rfl (by decide +kernel) ⟨Nat.le_of_ble_eq_true rfl, Nat.le_of_ble_eq_true rfl⟩) (o_v (o_pE hK hG (o_PT (pre := [ol cL a 1 g]) (ws := (wO o cI cR cS x v tl)) hP)) (va_recv hK hP (ci := 4) (q0 := 1) rfl rfl)) rfl rfl hl.1 rfl (lv_room (Nat.le_of_ble_eq_true rfl)) dL_play_3 ⟨Nat.le_of_ble_eq_true rfl, Nat.le_of_ble_eq_true rfl⟩) hP hS (fun ce q9 H locs hP hS h1 h2 h3 => ?_)
  refine vx_catch (own := RL) (name := nmA) (E := nmA) hown [] ⟨0, 8, 11, 21⟩ [] htab (fun z hz => nomatch hz) (by decide) (by decide) (hts (.classLink RL 21 "java/lang/IllegalArgumentException") (List.mem_of_getElem? (i := 1) (by decide +kernel))) (va_Nw.use (A := _) rfl hG.2.1.1.2.1) h1 h2 h3 ?_
  refine lv_astore_n (lv' := [(2, .ref q9), (0, .ref (o 0)), (1, .ref a)]) hx hb dL_play_11 rfl hl (by decide) rfl (fun ls hl => ?_)
  refine o_const (k := 1) hx hb dL_play_12 (by decide) ?_
  exact vx_ret (W.iret (v := nI 1) hx hb hrt (fun t ht hW => ⟨⟨_, g, rfl, ⟨rfl, rfl⟩, by show va_P D vwCl _ t.heap; rw [ht]; exact hP⟩, hS.F ht⟩) hS.2.2 dL_play_13)
set_option maxHeartbeats 4000000 in
set_option maxRecDepth 100000 in
theorem l_undo_0 (l : Launch) (D : va_G) (cI cR cS cL : ClassId) (sz : Nat) (o : Nat → Nat) (x : Nat → Nat → Nat) (v : Nat → Nat → Nat) (V : Nat → Nat → Nat → Nat) (b : Nat) (a : Nat) (g : Nat → Int64) (h3 : x 0 3 < 6) (h4 : x 0 4 ≤ 6) (h5 : 0 < x 0 4) (hSI : ∀ j, j < 6 → s_I b (V j)) (hb : b < 2 ^ 28) : vx_Met l yL_undo wsL_undo ({ frames := 4, cells := 0, slots := 0, locals := 81 }) (va_Pc [.ref (o 0), .ref a] (o_F D (o_T cI cR cS cL) ([ol cL a 1 g] ++ (wO o cI cR cS x v (wV o cI cR V))) sz)) (va_Qi (fun rz (u : Nat → Int64) => rz = nI 0 ∧ u 0 = (nI ((x 0 4 - 1))).toInt64) (fun (u : Nat → Int64) t => va_P D vwCl ([ol cL a 1 u] ++ (wO o cI cR cS (va_up x 0 (va_up (x 0) 4 (x 0 4 - 1))) (V ((x 0 3 + (x 0 4 - 1)) % 6)) (wV o cI cR V))) t.heap) (va_A ([ol cL a 1 g] ++ (wO o cI cR cS x v (wV o cI cR V))) sz)) o_x0 0 0 (va_A ([ol cL a 1 g] ++ (wO o cI cR cS x v (wV o cI cR V))) sz) := by
  refine vx_ofWH (cc := cL_undo) (maxL := 3) (ret := (some .int)) (hh := [(0, 8, 11, 15)]) (by decide) rfl ?_
  intro p e s m args below meth cd s₁ B hml hv
  obtain ⟨rfl, hsz, hP, hK, hD0, hG⟩ := hv
  have hx := B.exec
  have hb := B.bytes
  have hrt := B.returns
  have hts := atoms_spec (ws := wsL_undo) B.pre
  have hown : s.vm.findClass RL = some m.cls := findClass_of_methodNamed B.named
  have hlocks := B.notSynchronized
  have htab := vx_table (x := yL_undo) B (hts _ List.mem_cons_self)
  subst hsz
  have hD := hD0.self (sz := s.heap.size)
  generalize hAe : va_A ([ol cL a 1 g] ++ (wO o cI cR cS x v (wV o cI cR V))) s.heap.size = A at hD hG ⊢
  have hA : ∀ q : Nat, s.heap.size ≤ q → A q := fun q h => by rw [← hAe]; exact Or.inr h
  have hS : va_S A s.heap s.heap [] := va_S.rf
  have hN := hG.1
  have hl := lv_entry ([.ref (o 0), .ref a]) (n := 3) (Nat.le_of_ble_eq_true rfl)
  rw [lg_entry_eq]
  generalize (lg_sl ([.ref (o 0), .ref a]) ++ List.replicate (3 - (lg_sl ([.ref (o 0), .ref a])).length) Slot.unset).toArray = ls at hl ⊢
  have hl : lv_has ls 3 [(0, .ref (o 0)), (1, .ref a)] := hl
  refine lv_aload_n hx hb dL_undo_0 rfl (lv_at hl 1 rfl) ?_
  refine o_const (k := 0) hx hb dL_undo_1 (by decide) ?_
  refine lv_aload_n hx hb dL_undo_2 rfl (lv_at hl 0 rfl) ?_
  refine o_wiT [ol cL a 1 g] (va_runV (As := []) (rest := [.int (nI 0), .ref a]) ⟨hx, hb, hml, hown, hts⟩ (k_X4_undo l D cI cR cS cL s.heap.size o x v V b (by first | assumption | omega) (by first | assumption | omega) (by first | assumption | omega) (by first | assumption | omega) (by first | assumption | omega)) (cwV 0 hts gL_undo_X4_undo rfl rfl rfl (by decide +kernel) ⟨Nat.le_of_ble_eq_true rfl, Nat.le_of_ble_eq_true rfl⟩) (o_v (o_pB hK hN (o_PT (pre := [ol cL a 1 g]) (ws := (wO o cI cR cS x v (wV o cI cR V))) hP) (o_DT (pre := [ol cL a 1 g]) (ws := (wO o cI cR cS x v (wV o cI cR V))) hD)) (va_recv hK hP (ci := 4) (q0 := 1) rfl rfl)) rfl rfl hl.1 rfl (lv_room (Nat.le_of_ble_eq_true rfl)) dL_undo_3 ⟨Nat.zero_le _, Nat.zero_le _⟩) hP hD hS hA (fun _ => rfl) (fun r1 _ H locs e1 hP hD hS => ?_)
  have e1 : r1 = nI ((x 0 4 - 1)) := e1
  subst e1
  refine lv_i2l (v := (nI ((x 0 4 - 1))).toInt64) hx hb dL_undo_6 rfl ?_
  refine va_last (x := (nI ((x 0 4 - 1))).toInt64) hx hb hK hP hD hS 0 3 rfl rfl (vp_in_nI (by decide) (by decide)) dL_undo_7 (fun H locs hP hD hS => ?_)
  have hu : vp_updL g (nI 0).toNatClampNeg ((nI ((x 0 4 - 1))).toInt64) 0 = (nI ((x 0 4 - 1))).toInt64 := by rw [nI_clamp (show 0 < 2 ^ 31 by decide)]; exact if_pos rfl
  generalize vp_updL g (nI 0).toNatClampNeg ((nI ((x 0 4 - 1))).toInt64) = u at hu hP hD
  refine lv_goto (tgt := 14) hx hb dL_undo_8 (by decide) ?_
  refine o_const (k := 0) hx hb dL_undo_14 (by decide) ?_
  exact vx_ret (W.iret (v := nI 0) hx hb hrt (fun t ht hW => ⟨⟨_, u, rfl, ⟨rfl, hu⟩, by show va_P D vwCl _ t.heap; rw [ht]; exact hP⟩, hS.F ht⟩) hS.2.2 dL_undo_15)
set_option maxHeartbeats 4000000 in
set_option maxRecDepth 100000 in
theorem l_undo_1 (l : Launch) (D : va_G) (cI cR cS cL : ClassId) (hfl : l.stackTraces = false) (sz : Nat) (o : Nat → Nat) (x : Nat → Nat → Nat) (v : Nat → Nat → Nat) (tl : va_W) (b : Nat) (a : Nat) (g : Nat → Int64) (hbad : x 0 4 = 0) : vx_Met l yL_undo wsL_undo ({ frames := 7, cells := 1, slots := 6, locals := 102 }) (va_Pc [.ref (o 0), .ref a] (o_F D (o_T cI cR cS cL) ([ol cL a 1 g] ++ (wO o cI cR cS x v tl)) sz)) (va_Qi (fun rz (u : Nat → Int64) => rz = nI 1 ∧ u = g) (fun (u : Nat → Int64) t => va_P D vwCl ([ol cL a 1 u] ++ (wO o cI cR cS x v tl)) t.heap) (va_A ([ol cL a 1 g] ++ (wO o cI cR cS x v tl)) sz)) o_x0 1 6 (va_A ([ol cL a 1 g] ++ (wO o cI cR cS x v tl)) sz) := by
  refine vx_ofWH (cc := cL_undo) (maxL := 3) (ret := (some .int)) (hh := [(0, 8, 11, 15)]) (by decide) rfl ?_
  intro p e s m args below meth cd s₁ B hml hv
  obtain ⟨rfl, hsz, hP, hK, hD0, hG⟩ := hv
  have hx := B.exec
  have hb := B.bytes
  have hrt := B.returns
  have hts := atoms_spec (ws := wsL_undo) B.pre
  have hown : s.vm.findClass RL = some m.cls := findClass_of_methodNamed B.named
  have hlocks := B.notSynchronized
  have htab := vx_table (x := yL_undo) B (hts _ List.mem_cons_self)
  subst hsz
  have hD := hD0.self (sz := s.heap.size)
  generalize hAe : va_A ([ol cL a 1 g] ++ (wO o cI cR cS x v tl)) s.heap.size = A at hD hG ⊢
  have hA : ∀ q : Nat, s.heap.size ≤ q → A q := fun q h => by rw [← hAe]; exact Or.inr h
  have hS : va_S A s.heap s.heap [] := va_S.rf
  have hN := hG.1
  have hl := lv_entry ([.ref (o 0), .ref a]) (n := 3) (Nat.le_of_ble_eq_true rfl)
  rw [lg_entry_eq]
  generalize (lg_sl ([.ref (o 0), .ref a]) ++ List.replicate (3 - (lg_sl ([.ref (o 0), .ref a])).length) Slot.unset).toArray = ls at hl ⊢
  have hl : lv_has ls 3 [(0, .ref (o 0)), (1, .ref a)] := hl
  refine lv_aload_n hx hb dL_undo_0 rfl (lv_at hl 1 rfl) ?_
  refine o_const (k := 0) hx hb dL_undo_1 (by decide) ?_
  refine lv_aload_n hx hb dL_undo_2 rfl (lv_at hl 0 rfl) ?_
  refine o_cx (E := nmS) (vx_runV (As := []) (rest := [.int (nI 0), .ref a]) ⟨hx, hb, hml, hown, hts⟩ (x_X4_undo_1 l D cI cR cS cL hfl o x v tl b (by first | assumption | omega)) (cwV 0 hts gL_undo_X4_undo rfl rfl rfl (by decide +kernel) ⟨Nat.le_of_ble_eq_true rfl, Nat.le_of_ble_eq_true rfl⟩) (o_v (o_pE hK hG (o_PT (pre := [ol cL a 1 g]) (ws := (wO o cI cR cS x v tl)) hP)) (va_recv hK hP (ci := 4) (q0 := 1) rfl rfl)) rfl rfl hl.1 rfl (lv_room (Nat.le_of_ble_eq_true rfl)) dL_undo_3 ⟨Nat.le_of_ble_eq_true rfl, Nat.le_of_ble_eq_true rfl⟩) hP hS (fun ce q9 H locs hP hS h1 h2 h3 => ?_)
  refine vx_catch (own := RL) (name := nmS) (E := nmS) hown [] ⟨0, 8, 11, 15⟩ [] htab (fun z hz => nomatch hz) (by decide) (by decide) (hts (.classLink RL 15 "java/lang/IllegalStateException") (List.mem_of_getElem? (i := 1) (by decide +kernel))) (va_Nw.use (A := _) rfl hG.2.1.1.2.2) h1 h2 h3 ?_
  refine lv_astore_n (lv' := [(2, .ref q9), (0, .ref (o 0)), (1, .ref a)]) hx hb dL_undo_11 rfl hl (by decide) rfl (fun ls hl => ?_)
  refine o_const (k := 1) hx hb dL_undo_12 (by decide) ?_
  exact vx_ret (W.iret (v := nI 1) hx hb hrt (fun t ht hW => ⟨⟨_, g, rfl, ⟨rfl, rfl⟩, by show va_P D vwCl _ t.heap; rw [ht]; exact hP⟩, hS.F ht⟩) hS.2.2 dL_undo_13)
set_option maxHeartbeats 4000000 in
set_option maxRecDepth 100000 in
theorem l_field_0 (l : Launch) (D : va_G) (cI cR cS cL : ClassId) (sz : Nat) (o : Nat → Nat) (x : Nat → Nat → Nat) (v : Nat → Nat → Nat) (tl : va_W) (b : Nat) (f : Nat) (a : Nat) (g : Nat → Int64) (hf : f < 5) : vx_Met l yL_field wsL_field ({ frames := 2, cells := 0, slots := 0, locals := 42 }) (va_Pc [.ref (o 0), .int (nI f), .ref a] (o_F D (o_T cI cR cS cL) ([ol cL a 1 g] ++ (wO o cI cR cS x v tl)) sz)) (va_Qi (fun rz (u : Nat → Int64) => rz = nI 0 ∧ u 0 = (nI ((v 1 f))).toInt64) (fun (u : Nat → Int64) t => va_P D vwCl ([ol cL a 1 u] ++ (wO o cI cR cS x v tl)) t.heap) (va_A ([ol cL a 1 g] ++ (wO o cI cR cS x v tl)) sz)) o_x0 0 0 (va_A ([ol cL a 1 g] ++ (wO o cI cR cS x v tl)) sz) := by
  refine vx_ofWH (cc := cL_field) (maxL := 4) (ret := (some .int)) (hh := [(0, 9, 12, 13)]) (by decide) rfl ?_
  intro p e s m args below meth cd s₁ B hml hv
  obtain ⟨rfl, hsz, hP, hK, hD0, hG⟩ := hv
  have hx := B.exec
  have hb := B.bytes
  have hrt := B.returns
  have hts := atoms_spec (ws := wsL_field) B.pre
  have hown : s.vm.findClass RL = some m.cls := findClass_of_methodNamed B.named
  have hlocks := B.notSynchronized
  have htab := vx_table (x := yL_field) B (hts _ List.mem_cons_self)
  subst hsz
  have hD := hD0.self (sz := s.heap.size)
  generalize hAe : va_A ([ol cL a 1 g] ++ (wO o cI cR cS x v tl)) s.heap.size = A at hD hG ⊢
  have hA : ∀ q : Nat, s.heap.size ≤ q → A q := fun q h => by rw [← hAe]; exact Or.inr h
  have hS : va_S A s.heap s.heap [] := va_S.rf
  have hN := hG.1
  have hl := lv_entry ([.ref (o 0), .int (nI f), .ref a]) (n := 4) (Nat.le_of_ble_eq_true rfl)
  rw [lg_entry_eq]
  generalize (lg_sl ([.ref (o 0), .int (nI f), .ref a]) ++ List.replicate (4 - (lg_sl ([.ref (o 0), .int (nI f), .ref a])).length) Slot.unset).toArray = ls at hl ⊢
  have hl : lv_has ls 4 [(0, .ref (o 0)), (1, .int (nI f)), (2, .ref a)] := hl
  refine lv_aload_n hx hb dL_field_0 rfl (lv_at hl 2 rfl) ?_
  refine o_const (k := 0) hx hb dL_field_1 (by decide) ?_
  refine lv_aload_n hx hb dL_field_2 rfl (lv_at hl 0 rfl) ?_
  refine lv_iload_n hx hb dL_field_3 rfl (lv_at hl 1 rfl) ?_
  refine o_ri (va_runV (As := [.int (nI f)]) (rest := [.int (nI 0), .ref a]) ⟨hx, hb, hml, hown, hts⟩ (k_X4_field l D cI cR cS cL o x v tl b f (by first | assumption | omega)) (cwV 1 hts gL_field_X4_field rfl rfl rfl (by decide +kernel) ⟨Nat.le_of_ble_eq_true rfl, Nat.le_of_ble_eq_true rfl⟩) (o_v (o_pR hK hN (o_PT (pre := [ol cL a 1 g]) (ws := (wO o cI cR cS x v tl)) hP)) (va_recv hK hP (ci := 4) (q0 := 1) rfl rfl)) rfl rfl hl.1 rfl (lv_room (Nat.le_of_ble_eq_true rfl)) dL_field_4 ⟨Nat.zero_le _, Nat.zero_le _⟩) (fun r1 e1 => ?_)
  subst e1
  refine lv_i2l (v := (nI ((v 1 f))).toInt64) hx hb dL_field_7 rfl ?_
  refine va_last (x := (nI ((v 1 f))).toInt64) hx hb hK hP hD hS 0 3 rfl rfl (vp_in_nI (by decide) (by decide)) dL_field_8 (fun H locs hP hD hS => ?_)
  have hu : vp_updL g (nI 0).toNatClampNeg ((nI ((v 1 f))).toInt64) 0 = (nI ((v 1 f))).toInt64 := by rw [nI_clamp (show 0 < 2 ^ 31 by decide)]; exact if_pos rfl
  generalize vp_updL g (nI 0).toNatClampNeg ((nI ((v 1 f))).toInt64) = u at hu hP hD
  refine lv_goto (tgt := 15) hx hb dL_field_9 (by decide) ?_
  refine o_const (k := 0) hx hb dL_field_15 (by decide) ?_
  exact vx_ret (W.iret (v := nI 0) hx hb hrt (fun t ht hW => ⟨⟨_, u, rfl, ⟨rfl, hu⟩, by show va_P D vwCl _ t.heap; rw [ht]; exact hP⟩, hS.F ht⟩) hS.2.2 dL_field_16)
set_option maxHeartbeats 4000000 in
set_option maxRecDepth 100000 in
theorem l_field_1 (l : Launch) (D : va_G) (cI cR cS cL : ClassId) (hfl : l.stackTraces = false) (sz : Nat) (o : Nat → Nat) (x : Nat → Nat → Nat) (v : Nat → Nat → Nat) (tl : va_W) (b : Nat) (f : Nat) (a : Nat) (g : Nat → Int64) (h0f : f < 2 ^ 32) (hbad : ¬ f < 5) : vx_Met l yL_field wsL_field ({ frames := 7, cells := 1, slots := 6, locals := 103 }) (va_Pc [.ref (o 0), .int (nI f), .ref a] (o_F D (o_T cI cR cS cL) ([ol cL a 1 g] ++ (wO o cI cR cS x v tl)) sz)) (va_Qi (fun rz (u : Nat → Int64) => rz = nI 1 ∧ u = g) (fun (u : Nat → Int64) t => va_P D vwCl ([ol cL a 1 u] ++ (wO o cI cR cS x v tl)) t.heap) (va_A ([ol cL a 1 g] ++ (wO o cI cR cS x v tl)) sz)) o_x0 1 6 (va_A ([ol cL a 1 g] ++ (wO o cI cR cS x v tl)) sz) := by
  refine vx_ofWH (cc := cL_field) (maxL := 4) (ret := (some .int)) (hh := [(0, 9, 12, 13)]) (by decide) rfl ?_
  intro p e s m args below meth cd s₁ B hml hv
  obtain ⟨rfl, hsz, hP, hK, hD0, hG⟩ := hv
  have hx := B.exec
  have hb := B.bytes
  have hrt := B.returns
  have hts := atoms_spec (ws := wsL_field) B.pre
  have hown : s.vm.findClass RL = some m.cls := findClass_of_methodNamed B.named
  have hlocks := B.notSynchronized
  have htab := vx_table (x := yL_field) B (hts _ List.mem_cons_self)
  subst hsz
  have hD := hD0.self (sz := s.heap.size)
  generalize hAe : va_A ([ol cL a 1 g] ++ (wO o cI cR cS x v tl)) s.heap.size = A at hD hG ⊢
  have hA : ∀ q : Nat, s.heap.size ≤ q → A q := fun q h => by rw [← hAe]; exact Or.inr h
  have hS : va_S A s.heap s.heap [] := va_S.rf
  have hN := hG.1
  have hl := lv_entry ([.ref (o 0), .int (nI f), .ref a]) (n := 4) (Nat.le_of_ble_eq_true rfl)
  rw [lg_entry_eq]
  generalize (lg_sl ([.ref (o 0), .int (nI f), .ref a]) ++ List.replicate (4 - (lg_sl ([.ref (o 0), .int (nI f), .ref a])).length) Slot.unset).toArray = ls at hl ⊢
  have hl : lv_has ls 4 [(0, .ref (o 0)), (1, .int (nI f)), (2, .ref a)] := hl
  refine lv_aload_n hx hb dL_field_0 rfl (lv_at hl 2 rfl) ?_
  refine o_const (k := 0) hx hb dL_field_1 (by decide) ?_
  refine lv_aload_n hx hb dL_field_2 rfl (lv_at hl 0 rfl) ?_
  refine lv_iload_n hx hb dL_field_3 rfl (lv_at hl 1 rfl) ?_
  refine o_cx (E := nmI) (vx_runV (As := [.int (nI f)]) (rest := [.int (nI 0), .ref a]) ⟨hx, hb, hml, hown, hts⟩ (x_X4_field_1 l D cI cR cS cL hfl o x v tl b f (by first | assumption | omega) (by first | assumption | omega)) (cwV 1 hts gL_field_X4_field rfl rfl rfl (by decide +kernel) ⟨Nat.le_of_ble_eq_true rfl, Nat.le_of_ble_eq_true rfl⟩) (o_v (o_pE hK hG (o_PT (pre := [ol cL a 1 g]) (ws := (wO o cI cR cS x v tl)) hP)) (va_recv hK hP (ci := 4) (q0 := 1) rfl rfl)) rfl rfl hl.1 rfl (lv_room (Nat.le_of_ble_eq_true rfl)) dL_field_4 ⟨Nat.le_of_ble_eq_true rfl, Nat.le_of_ble_eq_true rfl⟩) hP hS (fun ce q9 H locs hP hS h1 h2 h3 => ?_)
  refine vx_catch (own := RL) (name := nmI) (E := nmI) hown [] ⟨0, 9, 12, 13⟩ [] htab (fun z hz => nomatch hz) (by decide) (by decide) (hts (.classLink RL 13 "java/lang/IndexOutOfBoundsException") (List.mem_of_getElem? (i := 1) (by decide +kernel))) (va_Nw.use (A := _) rfl hG.2.1.1.1) h1 h2 h3 ?_
  refine lv_astore_n (lv' := [(3, .ref q9), (0, .ref (o 0)), (1, .int (nI f)), (2, .ref a)]) hx hb dL_field_12 rfl hl (by decide) rfl (fun ls hl => ?_)
  refine o_const (k := 1) hx hb dL_field_13 (by decide) ?_
  exact vx_ret (W.iret (v := nI 1) hx hb hrt (fun t ht hW => ⟨⟨_, g, rfl, ⟨rfl, rfl⟩, by show va_P D vwCl _ t.heap; rw [ht]; exact hP⟩, hS.F ht⟩) hS.2.2 dL_field_14)
set_option maxHeartbeats 4000000 in
set_option maxRecDepth 100000 in
theorem l_notice_0 (l : Launch) (D : va_G) (cI cR cS cL : ClassId) (sz : Nat) (o : Nat → Nat) (x : Nat → Nat → Nat) (v : Nat → Nat → Nat) (tl : va_W) (b : Nat) (n : Nat) (f : Nat) (a : Nat) (g : Nat → Int64) (hSI : s_I b v) (hb : b < 2 ^ 28) (hn : n < 2 ^ 31) (hf : f < 5) : vx_Met l yL_notice wsL_notice ({ frames := 4, cells := 0, slots := 0, locals := 86 }) (va_Pc [.ref (o 0), .int (nI n), .int (nI f), .ref a] (o_F D (o_T cI cR cS cL) ([ol cL a 1 g] ++ (wO o cI cR cS x v tl)) sz)) (va_Qi (fun rz (u : Nat → Int64) => rz = nI 0 ∧ u 0 = (nI ((b_kv v n f))).toInt64) (fun (u : Nat → Int64) t => va_P D vwCl ([ol cL a 1 u] ++ (wO o cI cR cS x v tl)) t.heap) (va_A ([ol cL a 1 g] ++ (wO o cI cR cS x v tl)) sz)) o_x0 0 0 (va_A ([ol cL a 1 g] ++ (wO o cI cR cS x v tl)) sz) := by
  refine vx_ofWH (cc := cL_notice) (maxL := 5) (ret := (some .int)) (hh := [(0, 10, 13, 13), (0, 10, 17, 21)]) (by decide) rfl ?_
  intro p e s m args below meth cd s₁ B hml hv
  obtain ⟨rfl, hsz, hP, hK, hD0, hG⟩ := hv
  have hx := B.exec
  have hb := B.bytes
  have hrt := B.returns
  have hts := atoms_spec (ws := wsL_notice) B.pre
  have hown : s.vm.findClass RL = some m.cls := findClass_of_methodNamed B.named
  have hlocks := B.notSynchronized
  have htab := vx_table (x := yL_notice) B (hts _ List.mem_cons_self)
  subst hsz
  have hD := hD0.self (sz := s.heap.size)
  generalize hAe : va_A ([ol cL a 1 g] ++ (wO o cI cR cS x v tl)) s.heap.size = A at hD hG ⊢
  have hA : ∀ q : Nat, s.heap.size ≤ q → A q := fun q h => by rw [← hAe]; exact Or.inr h
  have hS : va_S A s.heap s.heap [] := va_S.rf
  have hN := hG.1
  have hl := lv_entry ([.ref (o 0), .int (nI n), .int (nI f), .ref a]) (n := 5) (Nat.le_of_ble_eq_true rfl)
  rw [lg_entry_eq]
  generalize (lg_sl ([.ref (o 0), .int (nI n), .int (nI f), .ref a]) ++ List.replicate (5 - (lg_sl ([.ref (o 0), .int (nI n), .int (nI f), .ref a])).length) Slot.unset).toArray = ls at hl ⊢
  have hl : lv_has ls 5 [(0, .ref (o 0)), (1, .int (nI n)), (2, .int (nI f)), (3, .ref a)] := hl
  refine lv_aload_n hx hb dL_notice_0 rfl (lv_at hl 3 rfl) ?_
  refine o_const (k := 0) hx hb dL_notice_1 (by decide) ?_
  refine lv_aload_n hx hb dL_notice_2 rfl (lv_at hl 0 rfl) ?_
  refine lv_iload_n hx hb dL_notice_3 rfl (lv_at hl 1 rfl) ?_
  refine lv_iload_n hx hb dL_notice_4 rfl (lv_at hl 2 rfl) ?_
  refine o_ri (va_runV (As := [.int (nI n), .int (nI f)]) (rest := [.int (nI 0), .ref a]) ⟨hx, hb, hml, hown, hts⟩ (k_X4_notice l D cI cR cS cL o x v tl b n f (by first | assumption | omega) (by first | assumption | omega) (by first | assumption | omega) (by first | assumption | omega)) (cwV 2 hts gL_notice_X4_notice rfl rfl rfl (by decide +kernel) ⟨Nat.le_of_ble_eq_true rfl, Nat.le_of_ble_eq_true rfl⟩) (o_v (o_pR hK hN (o_PT (pre := [ol cL a 1 g]) (ws := (wO o cI cR cS x v tl)) hP)) (va_recv hK hP (ci := 4) (q0 := 1) rfl rfl)) rfl rfl hl.1 rfl (lv_room (Nat.le_of_ble_eq_true rfl)) dL_notice_5 ⟨Nat.zero_le _, Nat.zero_le _⟩) (fun r1 e1 => ?_)
  subst e1
  refine lv_i2l (v := (nI ((b_kv v n f))).toInt64) hx hb dL_notice_8 rfl ?_
  refine va_last (x := (nI ((b_kv v n f))).toInt64) hx hb hK hP hD hS 0 3 rfl rfl (vp_in_nI (by decide) (by decide)) dL_notice_9 (fun H locs hP hD hS => ?_)
  have hu : vp_updL g (nI 0).toNatClampNeg ((nI ((b_kv v n f))).toInt64) 0 = (nI ((b_kv v n f))).toInt64 := by rw [nI_clamp (show 0 < 2 ^ 31 by decide)]; exact if_pos rfl
  generalize vp_updL g (nI 0).toNatClampNeg ((nI ((b_kv v n f))).toInt64) = u at hu hP hD
  refine lv_goto (tgt := 21) hx hb dL_notice_10 (by decide) ?_
  refine o_const (k := 0) hx hb dL_notice_21 (by decide) ?_
  exact vx_ret (W.iret (v := nI 0) hx hb hrt (fun t ht hW => ⟨⟨_, u, rfl, ⟨rfl, hu⟩, by show va_P D vwCl _ t.heap; rw [ht]; exact hP⟩, hS.F ht⟩) hS.2.2 dL_notice_22)
set_option maxHeartbeats 4000000 in
set_option maxRecDepth 100000 in
theorem l_notice_1 (l : Launch) (D : va_G) (cI cR cS cL : ClassId) (hfl : l.stackTraces = false) (sz : Nat) (o : Nat → Nat) (x : Nat → Nat → Nat) (v : Nat → Nat → Nat) (tl : va_W) (b : Nat) (n : Nat) (f : Nat) (a : Nat) (g : Nat → Int64) (h0f : f < 2 ^ 32) (hbad : ¬ f < 5) : vx_Met l yL_notice wsL_notice ({ frames := 7, cells := 1, slots := 6, locals := 104 }) (va_Pc [.ref (o 0), .int (nI n), .int (nI f), .ref a] (o_F D (o_T cI cR cS cL) ([ol cL a 1 g] ++ (wO o cI cR cS x v tl)) sz)) (va_Qi (fun rz (u : Nat → Int64) => rz = nI 1 ∧ u = g) (fun (u : Nat → Int64) t => va_P D vwCl ([ol cL a 1 u] ++ (wO o cI cR cS x v tl)) t.heap) (va_A ([ol cL a 1 g] ++ (wO o cI cR cS x v tl)) sz)) o_x0 1 6 (va_A ([ol cL a 1 g] ++ (wO o cI cR cS x v tl)) sz) := by
  refine vx_ofWH (cc := cL_notice) (maxL := 5) (ret := (some .int)) (hh := [(0, 10, 13, 13), (0, 10, 17, 21)]) (by decide) rfl ?_
  intro p e s m args below meth cd s₁ B hml hv
  obtain ⟨rfl, hsz, hP, hK, hD0, hG⟩ := hv
  have hx := B.exec
  have hb := B.bytes
  have hrt := B.returns
  have hts := atoms_spec (ws := wsL_notice) B.pre
  have hown : s.vm.findClass RL = some m.cls := findClass_of_methodNamed B.named
  have hlocks := B.notSynchronized
  have htab := vx_table (x := yL_notice) B (hts _ List.mem_cons_self)
  subst hsz
  have hD := hD0.self (sz := s.heap.size)
  generalize hAe : va_A ([ol cL a 1 g] ++ (wO o cI cR cS x v tl)) s.heap.size = A at hD hG ⊢
  have hA : ∀ q : Nat, s.heap.size ≤ q → A q := fun q h => by rw [← hAe]; exact Or.inr h
  have hS : va_S A s.heap s.heap [] := va_S.rf
  have hN := hG.1
  have hl := lv_entry ([.ref (o 0), .int (nI n), .int (nI f), .ref a]) (n := 5) (Nat.le_of_ble_eq_true rfl)
  rw [lg_entry_eq]
  generalize (lg_sl ([.ref (o 0), .int (nI n), .int (nI f), .ref a]) ++ List.replicate (5 - (lg_sl ([.ref (o 0), .int (nI n), .int (nI f), .ref a])).length) Slot.unset).toArray = ls at hl ⊢
  have hl : lv_has ls 5 [(0, .ref (o 0)), (1, .int (nI n)), (2, .int (nI f)), (3, .ref a)] := hl
  refine lv_aload_n hx hb dL_notice_0 rfl (lv_at hl 3 rfl) ?_
  refine o_const (k := 0) hx hb dL_notice_1 (by decide) ?_
  refine lv_aload_n hx hb dL_notice_2 rfl (lv_at hl 0 rfl) ?_
  refine lv_iload_n hx hb dL_notice_3 rfl (lv_at hl 1 rfl) ?_
  refine lv_iload_n hx hb dL_notice_4 rfl (lv_at hl 2 rfl) ?_
  refine o_cx (E := nmI) (vx_runV (As := [.int (nI n), .int (nI f)]) (rest := [.int (nI 0), .ref a]) ⟨hx, hb, hml, hown, hts⟩ (x_X4_notice_1 l D cI cR cS cL hfl o x v tl b n f (by first | assumption | omega) (by first | assumption | omega)) (cwV 2 hts gL_notice_X4_notice rfl rfl rfl (by decide +kernel) ⟨Nat.le_of_ble_eq_true rfl, Nat.le_of_ble_eq_true rfl⟩) (o_v (o_pE hK hG (o_PT (pre := [ol cL a 1 g]) (ws := (wO o cI cR cS x v tl)) hP)) (va_recv hK hP (ci := 4) (q0 := 1) rfl rfl)) rfl rfl hl.1 rfl (lv_room (Nat.le_of_ble_eq_true rfl)) dL_notice_5 ⟨Nat.le_of_ble_eq_true rfl, Nat.le_of_ble_eq_true rfl⟩) hP hS (fun ce q9 H locs hP hS h1 h2 h3 => ?_)
  refine vx_catch (own := RL) (name := nmI) (E := nmI) hown [] ⟨0, 10, 13, 13⟩ [⟨0, 10, 17, 21⟩] htab (fun z hz => nomatch hz) (by decide) (by decide) (hts (.classLink RL 13 "java/lang/IndexOutOfBoundsException") (List.mem_of_getElem? (i := 1) (by decide +kernel))) (va_Nw.use (A := _) rfl hG.2.1.1.1) h1 h2 h3 ?_
  refine lv_astore (lv' := [(4, .ref q9), (0, .ref (o 0)), (1, .int (nI n)), (2, .int (nI f)), (3, .ref a)]) hx hb dL_notice_13 hl (by decide) rfl (fun ls hl => ?_)
  refine o_const (k := 1) hx hb dL_notice_15 (by decide) ?_
  exact vx_ret (W.iret (v := nI 1) hx hb hrt (fun t ht hW => ⟨⟨_, g, rfl, ⟨rfl, rfl⟩, by show va_P D vwCl _ t.heap; rw [ht]; exact hP⟩, hS.F ht⟩) hS.2.2 dL_notice_16)
set_option maxHeartbeats 4000000 in
set_option maxRecDepth 100000 in
theorem l_notice_2 (l : Launch) (D : va_G) (cI cR cS cL : ClassId) (hfl : l.stackTraces = false) (sz : Nat) (o : Nat → Nat) (x : Nat → Nat → Nat) (v : Nat → Nat → Nat) (tl : va_W) (b : Nat) (n : Nat) (f : Nat) (a : Nat) (g : Nat → Int64) (hf : f < 5) (h0n : n < 2 ^ 32) (hbad : ¬ n < 2147483648) : vx_Met l yL_notice wsL_notice ({ frames := 7, cells := 1, slots := 6, locals := 104 }) (va_Pc [.ref (o 0), .int (nI n), .int (nI f), .ref a] (o_F D (o_T cI cR cS cL) ([ol cL a 1 g] ++ (wO o cI cR cS x v tl)) sz)) (va_Qi (fun rz (u : Nat → Int64) => rz = nI 2 ∧ u = g) (fun (u : Nat → Int64) t => va_P D vwCl ([ol cL a 1 u] ++ (wO o cI cR cS x v tl)) t.heap) (va_A ([ol cL a 1 g] ++ (wO o cI cR cS x v tl)) sz)) o_x0 1 6 (va_A ([ol cL a 1 g] ++ (wO o cI cR cS x v tl)) sz) := by
  refine vx_ofWH (cc := cL_notice) (maxL := 5) (ret := (some .int)) (hh := [(0, 10, 13, 13), (0, 10, 17, 21)]) (by decide) rfl ?_
  intro p e s m args below meth cd s₁ B hml hv
  obtain ⟨rfl, hsz, hP, hK, hD0, hG⟩ := hv
  have hx := B.exec
  have hb := B.bytes
  have hrt := B.returns
  have hts := atoms_spec (ws := wsL_notice) B.pre
  have hown : s.vm.findClass RL = some m.cls := findClass_of_methodNamed B.named
  have hlocks := B.notSynchronized
  have htab := vx_table (x := yL_notice) B (hts _ List.mem_cons_self)
  subst hsz
  have hD := hD0.self (sz := s.heap.size)
  generalize hAe : va_A ([ol cL a 1 g] ++ (wO o cI cR cS x v tl)) s.heap.size = A at hD hG ⊢
  have hA : ∀ q : Nat, s.heap.size ≤ q → A q := fun q h => by rw [← hAe]; exact Or.inr h
  have hS : va_S A s.heap s.heap [] := va_S.rf
  have hN := hG.1
  have hl := lv_entry ([.ref (o 0), .int (nI n), .int (nI f), .ref a]) (n := 5) (Nat.le_of_ble_eq_true rfl)
  rw [lg_entry_eq]
  generalize (lg_sl ([.ref (o 0), .int (nI n), .int (nI f), .ref a]) ++ List.replicate (5 - (lg_sl ([.ref (o 0), .int (nI n), .int (nI f), .ref a])).length) Slot.unset).toArray = ls at hl ⊢
  have hl : lv_has ls 5 [(0, .ref (o 0)), (1, .int (nI n)), (2, .int (nI f)), (3, .ref a)] := hl
  refine lv_aload_n hx hb dL_notice_0 rfl (lv_at hl 3 rfl) ?_
  refine o_const (k := 0) hx hb dL_notice_1 (by decide) ?_
  refine lv_aload_n hx hb dL_notice_2 rfl (lv_at hl 0 rfl) ?_
  refine lv_iload_n hx hb dL_notice_3 rfl (lv_at hl 1 rfl) ?_
  refine lv_iload_n hx hb dL_notice_4 rfl (lv_at hl 2 rfl) ?_
  refine o_cx (E := nmA) (vx_runV (As := [.int (nI n), .int (nI f)]) (rest := [.int (nI 0), .ref a]) ⟨hx, hb, hml, hown, hts⟩ (x_X4_notice_2 l D cI cR cS cL hfl o x v tl b n f (by first | assumption | omega) (by first | assumption | omega) (by first | assumption | omega)) (cwV 2 hts gL_notice_X4_notice rfl rfl rfl (by decide +kernel) ⟨Nat.le_of_ble_eq_true rfl, Nat.le_of_ble_eq_true rfl⟩) (o_v (o_pE hK hG (o_PT (pre := [ol cL a 1 g]) (ws := (wO o cI cR cS x v tl)) hP)) (va_recv hK hP (ci := 4) (q0 := 1) rfl rfl)) rfl rfl hl.1 rfl (lv_room (Nat.le_of_ble_eq_true rfl)) dL_notice_5 ⟨Nat.le_of_ble_eq_true rfl, Nat.le_of_ble_eq_true rfl⟩) hP hS (fun ce q9 H locs hP hS h1 h2 h3 => ?_)
  refine vx_catch (own := RL) (name := nmA) (E := nmA) hown [⟨0, 10, 13, 13⟩] ⟨0, 10, 17, 21⟩ [] htab (List.forall_mem_cons.mpr ⟨Or.inr ⟨by decide, nmI, (hts (.classLink RL 13 "java/lang/IndexOutOfBoundsException") (List.mem_of_getElem? (i := 1) (by decide +kernel))), hG.2.1.2.2.1⟩, (fun _ h => nomatch h)⟩) (by decide) (by decide) (hts (.classLink RL 21 "java/lang/IllegalArgumentException") (List.mem_of_getElem? (i := 2) (by decide +kernel))) (va_Nw.use (A := _) rfl hG.2.1.1.2.1) h1 h2 h3 ?_
  refine lv_astore (lv' := [(4, .ref q9), (0, .ref (o 0)), (1, .int (nI n)), (2, .int (nI f)), (3, .ref a)]) hx hb dL_notice_17 hl (by decide) rfl (fun ls hl => ?_)
  refine o_const (k := 2) hx hb dL_notice_19 (by decide) ?_
  exact vx_ret (W.iret (v := nI 2) hx hb hrt (fun t ht hW => ⟨⟨_, g, rfl, ⟨rfl, rfl⟩, by show va_P D vwCl _ t.heap; rw [ht]; exact hP⟩, hS.F ht⟩) hS.2.2 dL_notice_20)
set_option maxHeartbeats 4000000 in
set_option maxRecDepth 100000 in
theorem l_clerk_0 (l : Launch) (D : va_G) (cI cR cS cL : ClassId) (sz : Nat) (o : Nat → Nat) (x : Nat → Nat → Nat) (v : Nat → Nat → Nat) (tl : va_W) (b : Nat) (c : Nat) (k : Nat) (a : Nat) (g : Nat → Int64) (hSI : s_I b v) (hb : b < 2 ^ 28) (hc : c < 3) (hk : k < 3) : vx_Met l yL_clerk wsL_clerk ({ frames := 3, cells := 0, slots := 0, locals := 64 }) (va_Pc [.ref (o 0), .int (nI c), .int (nI k), .ref a] (o_F D (o_T cI cR cS cL) ([ol cL a 1 g] ++ (wO o cI cR cS x v tl)) sz)) (va_Qi (fun rz (u : Nat → Int64) => rz = nI 0 ∧ u 0 = (nI ((c_clk v c k))).toInt64) (fun (u : Nat → Int64) t => va_P D vwCl ([ol cL a 1 u] ++ (wO o cI cR cS x v tl)) t.heap) (va_A ([ol cL a 1 g] ++ (wO o cI cR cS x v tl)) sz)) o_x0 0 0 (va_A ([ol cL a 1 g] ++ (wO o cI cR cS x v tl)) sz) := by
  refine vx_ofWH (cc := cL_clerk) (maxL := 5) (ret := (some .int)) (hh := [(0, 10, 13, 13), (0, 10, 17, 21)]) (by decide) rfl ?_
  intro p e s m args below meth cd s₁ B hml hv
  obtain ⟨rfl, hsz, hP, hK, hD0, hG⟩ := hv
  have hx := B.exec
  have hb := B.bytes
  have hrt := B.returns
  have hts := atoms_spec (ws := wsL_clerk) B.pre
  have hown : s.vm.findClass RL = some m.cls := findClass_of_methodNamed B.named
  have hlocks := B.notSynchronized
  have htab := vx_table (x := yL_clerk) B (hts _ List.mem_cons_self)
  subst hsz
  have hD := hD0.self (sz := s.heap.size)
  generalize hAe : va_A ([ol cL a 1 g] ++ (wO o cI cR cS x v tl)) s.heap.size = A at hD hG ⊢
  have hA : ∀ q : Nat, s.heap.size ≤ q → A q := fun q h => by rw [← hAe]; exact Or.inr h
  have hS : va_S A s.heap s.heap [] := va_S.rf
  have hN := hG.1
  have hl := lv_entry ([.ref (o 0), .int (nI c), .int (nI k), .ref a]) (n := 5) (Nat.le_of_ble_eq_true rfl)
  rw [lg_entry_eq]
  generalize (lg_sl ([.ref (o 0), .int (nI c), .int (nI k), .ref a]) ++ List.replicate (5 - (lg_sl ([.ref (o 0), .int (nI c), .int (nI k), .ref a])).length) Slot.unset).toArray = ls at hl ⊢
  have hl : lv_has ls 5 [(0, .ref (o 0)), (1, .int (nI c)), (2, .int (nI k)), (3, .ref a)] := hl
  refine lv_aload_n hx hb dL_clerk_0 rfl (lv_at hl 3 rfl) ?_
  refine o_const (k := 0) hx hb dL_clerk_1 (by decide) ?_
  refine lv_aload_n hx hb dL_clerk_2 rfl (lv_at hl 0 rfl) ?_
  refine lv_iload_n hx hb dL_clerk_3 rfl (lv_at hl 1 rfl) ?_
  refine lv_iload_n hx hb dL_clerk_4 rfl (lv_at hl 2 rfl) ?_
  refine o_ri (va_runV (As := [.int (nI c), .int (nI k)]) (rest := [.int (nI 0), .ref a]) ⟨hx, hb, hml, hown, hts⟩ (k_X4_clerk l D cI cR cS cL o x v tl b c k (by first | assumption | omega) (by first | assumption | omega) (by first | assumption | omega) (by first | assumption | omega)) (cwV 2 hts gL_clerk_X4_clerk rfl rfl rfl (by decide +kernel) ⟨Nat.le_of_ble_eq_true rfl, Nat.le_of_ble_eq_true rfl⟩) (o_v (o_pR hK hN (o_PT (pre := [ol cL a 1 g]) (ws := (wO o cI cR cS x v tl)) hP)) (va_recv hK hP (ci := 4) (q0 := 1) rfl rfl)) rfl rfl hl.1 rfl (lv_room (Nat.le_of_ble_eq_true rfl)) dL_clerk_5 ⟨Nat.zero_le _, Nat.zero_le _⟩) (fun r1 e1 => ?_)
  subst e1
  refine lv_i2l (v := (nI ((c_clk v c k))).toInt64) hx hb dL_clerk_8 rfl ?_
  refine va_last (x := (nI ((c_clk v c k))).toInt64) hx hb hK hP hD hS 0 3 rfl rfl (vp_in_nI (by decide) (by decide)) dL_clerk_9 (fun H locs hP hD hS => ?_)
  have hu : vp_updL g (nI 0).toNatClampNeg ((nI ((c_clk v c k))).toInt64) 0 = (nI ((c_clk v c k))).toInt64 := by rw [nI_clamp (show 0 < 2 ^ 31 by decide)]; exact if_pos rfl
  generalize vp_updL g (nI 0).toNatClampNeg ((nI ((c_clk v c k))).toInt64) = u at hu hP hD
  refine lv_goto (tgt := 21) hx hb dL_clerk_10 (by decide) ?_
  refine o_const (k := 0) hx hb dL_clerk_21 (by decide) ?_
  exact vx_ret (W.iret (v := nI 0) hx hb hrt (fun t ht hW => ⟨⟨_, u, rfl, ⟨rfl, hu⟩, by show va_P D vwCl _ t.heap; rw [ht]; exact hP⟩, hS.F ht⟩) hS.2.2 dL_clerk_22)
set_option maxHeartbeats 4000000 in
set_option maxRecDepth 100000 in
theorem l_clerk_1 (l : Launch) (D : va_G) (cI cR cS cL : ClassId) (hfl : l.stackTraces = false) (sz : Nat) (o : Nat → Nat) (x : Nat → Nat → Nat) (v : Nat → Nat → Nat) (tl : va_W) (b : Nat) (c : Nat) (k : Nat) (a : Nat) (g : Nat → Int64) (h0c : c < 2 ^ 32) (hbad : ¬ c < 3) : vx_Met l yL_clerk wsL_clerk ({ frames := 7, cells := 1, slots := 6, locals := 104 }) (va_Pc [.ref (o 0), .int (nI c), .int (nI k), .ref a] (o_F D (o_T cI cR cS cL) ([ol cL a 1 g] ++ (wO o cI cR cS x v tl)) sz)) (va_Qi (fun rz (u : Nat → Int64) => rz = nI 1 ∧ u = g) (fun (u : Nat → Int64) t => va_P D vwCl ([ol cL a 1 u] ++ (wO o cI cR cS x v tl)) t.heap) (va_A ([ol cL a 1 g] ++ (wO o cI cR cS x v tl)) sz)) o_x0 1 6 (va_A ([ol cL a 1 g] ++ (wO o cI cR cS x v tl)) sz) := by
  refine vx_ofWH (cc := cL_clerk) (maxL := 5) (ret := (some .int)) (hh := [(0, 10, 13, 13), (0, 10, 17, 21)]) (by decide) rfl ?_
  intro p e s m args below meth cd s₁ B hml hv
  obtain ⟨rfl, hsz, hP, hK, hD0, hG⟩ := hv
  have hx := B.exec
  have hb := B.bytes
  have hrt := B.returns
  have hts := atoms_spec (ws := wsL_clerk) B.pre
  have hown : s.vm.findClass RL = some m.cls := findClass_of_methodNamed B.named
  have hlocks := B.notSynchronized
  have htab := vx_table (x := yL_clerk) B (hts _ List.mem_cons_self)
  subst hsz
  have hD := hD0.self (sz := s.heap.size)
  generalize hAe : va_A ([ol cL a 1 g] ++ (wO o cI cR cS x v tl)) s.heap.size = A at hD hG ⊢
  have hA : ∀ q : Nat, s.heap.size ≤ q → A q := fun q h => by rw [← hAe]; exact Or.inr h
  have hS : va_S A s.heap s.heap [] := va_S.rf
  have hN := hG.1
  have hl := lv_entry ([.ref (o 0), .int (nI c), .int (nI k), .ref a]) (n := 5) (Nat.le_of_ble_eq_true rfl)
  rw [lg_entry_eq]
  generalize (lg_sl ([.ref (o 0), .int (nI c), .int (nI k), .ref a]) ++ List.replicate (5 - (lg_sl ([.ref (o 0), .int (nI c), .int (nI k), .ref a])).length) Slot.unset).toArray = ls at hl ⊢
  have hl : lv_has ls 5 [(0, .ref (o 0)), (1, .int (nI c)), (2, .int (nI k)), (3, .ref a)] := hl
  refine lv_aload_n hx hb dL_clerk_0 rfl (lv_at hl 3 rfl) ?_
  refine o_const (k := 0) hx hb dL_clerk_1 (by decide) ?_
  refine lv_aload_n hx hb dL_clerk_2 rfl (lv_at hl 0 rfl) ?_
  refine lv_iload_n hx hb dL_clerk_3 rfl (lv_at hl 1 rfl) ?_
  refine lv_iload_n hx hb dL_clerk_4 rfl (lv_at hl 2 rfl) ?_
  refine o_cx (E := nmI) (vx_runV (As := [.int (nI c), .int (nI k)]) (rest := [.int (nI 0), .ref a]) ⟨hx, hb, hml, hown, hts⟩ (x_X4_clerk_1 l D cI cR cS cL hfl o x v tl b c k (by first | assumption | omega) (by first | assumption | omega)) (cwV 2 hts gL_clerk_X4_clerk rfl rfl rfl (by decide +kernel) ⟨Nat.le_of_ble_eq_true rfl, Nat.le_of_ble_eq_true rfl⟩) (o_v (o_pE hK hG (o_PT (pre := [ol cL a 1 g]) (ws := (wO o cI cR cS x v tl)) hP)) (va_recv hK hP (ci := 4) (q0 := 1) rfl rfl)) rfl rfl hl.1 rfl (lv_room (Nat.le_of_ble_eq_true rfl)) dL_clerk_5 ⟨Nat.le_of_ble_eq_true rfl, Nat.le_of_ble_eq_true rfl⟩) hP hS (fun ce q9 H locs hP hS h1 h2 h3 => ?_)
  refine vx_catch (own := RL) (name := nmI) (E := nmI) hown [] ⟨0, 10, 13, 13⟩ [⟨0, 10, 17, 21⟩] htab (fun z hz => nomatch hz) (by decide) (by decide) (hts (.classLink RL 13 "java/lang/IndexOutOfBoundsException") (List.mem_of_getElem? (i := 1) (by decide +kernel))) (va_Nw.use (A := _) rfl hG.2.1.1.1) h1 h2 h3 ?_
  refine lv_astore (lv' := [(4, .ref q9), (0, .ref (o 0)), (1, .int (nI c)), (2, .int (nI k)), (3, .ref a)]) hx hb dL_clerk_13 hl (by decide) rfl (fun ls hl => ?_)
  refine o_const (k := 1) hx hb dL_clerk_15 (by decide) ?_
  exact vx_ret (W.iret (v := nI 1) hx hb hrt (fun t ht hW => ⟨⟨_, g, rfl, ⟨rfl, rfl⟩, by show va_P D vwCl _ t.heap; rw [ht]; exact hP⟩, hS.F ht⟩) hS.2.2 dL_clerk_16)
set_option maxHeartbeats 4000000 in
set_option maxRecDepth 100000 in
theorem l_clerk_2 (l : Launch) (D : va_G) (cI cR cS cL : ClassId) (hfl : l.stackTraces = false) (sz : Nat) (o : Nat → Nat) (x : Nat → Nat → Nat) (v : Nat → Nat → Nat) (tl : va_W) (b : Nat) (c : Nat) (k : Nat) (a : Nat) (g : Nat → Int64) (hc : c < 3) (h0k : k < 2 ^ 32) (hbad : ¬ k < 3) : vx_Met l yL_clerk wsL_clerk ({ frames := 7, cells := 1, slots := 6, locals := 104 }) (va_Pc [.ref (o 0), .int (nI c), .int (nI k), .ref a] (o_F D (o_T cI cR cS cL) ([ol cL a 1 g] ++ (wO o cI cR cS x v tl)) sz)) (va_Qi (fun rz (u : Nat → Int64) => rz = nI 2 ∧ u = g) (fun (u : Nat → Int64) t => va_P D vwCl ([ol cL a 1 u] ++ (wO o cI cR cS x v tl)) t.heap) (va_A ([ol cL a 1 g] ++ (wO o cI cR cS x v tl)) sz)) o_x0 1 6 (va_A ([ol cL a 1 g] ++ (wO o cI cR cS x v tl)) sz) := by
  refine vx_ofWH (cc := cL_clerk) (maxL := 5) (ret := (some .int)) (hh := [(0, 10, 13, 13), (0, 10, 17, 21)]) (by decide) rfl ?_
  intro p e s m args below meth cd s₁ B hml hv
  obtain ⟨rfl, hsz, hP, hK, hD0, hG⟩ := hv
  have hx := B.exec
  have hb := B.bytes
  have hrt := B.returns
  have hts := atoms_spec (ws := wsL_clerk) B.pre
  have hown : s.vm.findClass RL = some m.cls := findClass_of_methodNamed B.named
  have hlocks := B.notSynchronized
  have htab := vx_table (x := yL_clerk) B (hts _ List.mem_cons_self)
  subst hsz
  have hD := hD0.self (sz := s.heap.size)
  generalize hAe : va_A ([ol cL a 1 g] ++ (wO o cI cR cS x v tl)) s.heap.size = A at hD hG ⊢
  have hA : ∀ q : Nat, s.heap.size ≤ q → A q := fun q h => by rw [← hAe]; exact Or.inr h
  have hS : va_S A s.heap s.heap [] := va_S.rf
  have hN := hG.1
  have hl := lv_entry ([.ref (o 0), .int (nI c), .int (nI k), .ref a]) (n := 5) (Nat.le_of_ble_eq_true rfl)
  rw [lg_entry_eq]
  generalize (lg_sl ([.ref (o 0), .int (nI c), .int (nI k), .ref a]) ++ List.replicate (5 - (lg_sl ([.ref (o 0), .int (nI c), .int (nI k), .ref a])).length) Slot.unset).toArray = ls at hl ⊢
  have hl : lv_has ls 5 [(0, .ref (o 0)), (1, .int (nI c)), (2, .int (nI k)), (3, .ref a)] := hl
  refine lv_aload_n hx hb dL_clerk_0 rfl (lv_at hl 3 rfl) ?_
  refine o_const (k := 0) hx hb dL_clerk_1 (by decide) ?_
  refine lv_aload_n hx hb dL_clerk_2 rfl (lv_at hl 0 rfl) ?_
  refine lv_iload_n hx hb dL_clerk_3 rfl (lv_at hl 1 rfl) ?_
  refine lv_iload_n hx hb dL_clerk_4 rfl (lv_at hl 2 rfl) ?_
  refine o_cx (E := nmA) (vx_runV (As := [.int (nI c), .int (nI k)]) (rest := [.int (nI 0), .ref a]) ⟨hx, hb, hml, hown, hts⟩ (x_X4_clerk_2 l D cI cR cS cL hfl o x v tl b c k (by first | assumption | omega) (by first | assumption | omega) (by first | assumption | omega)) (cwV 2 hts gL_clerk_X4_clerk rfl rfl rfl (by decide +kernel) ⟨Nat.le_of_ble_eq_true rfl, Nat.le_of_ble_eq_true rfl⟩) (o_v (o_pE hK hG (o_PT (pre := [ol cL a 1 g]) (ws := (wO o cI cR cS x v tl)) hP)) (va_recv hK hP (ci := 4) (q0 := 1) rfl rfl)) rfl rfl hl.1 rfl (lv_room (Nat.le_of_ble_eq_true rfl)) dL_clerk_5 ⟨Nat.le_of_ble_eq_true rfl, Nat.le_of_ble_eq_true rfl⟩) hP hS (fun ce q9 H locs hP hS h1 h2 h3 => ?_)
  refine vx_catch (own := RL) (name := nmA) (E := nmA) hown [⟨0, 10, 13, 13⟩] ⟨0, 10, 17, 21⟩ [] htab (List.forall_mem_cons.mpr ⟨Or.inr ⟨by decide, nmI, (hts (.classLink RL 13 "java/lang/IndexOutOfBoundsException") (List.mem_of_getElem? (i := 1) (by decide +kernel))), hG.2.1.2.2.1⟩, (fun _ h => nomatch h)⟩) (by decide) (by decide) (hts (.classLink RL 21 "java/lang/IllegalArgumentException") (List.mem_of_getElem? (i := 2) (by decide +kernel))) (va_Nw.use (A := _) rfl hG.2.1.1.2.1) h1 h2 h3 ?_
  refine lv_astore (lv' := [(4, .ref q9), (0, .ref (o 0)), (1, .int (nI c)), (2, .int (nI k)), (3, .ref a)]) hx hb dL_clerk_17 hl (by decide) rfl (fun ls hl => ?_)
  refine o_const (k := 2) hx hb dL_clerk_19 (by decide) ?_
  exact vx_ret (W.iret (v := nI 2) hx hb hrt (fun t ht hW => ⟨⟨_, g, rfl, ⟨rfl, rfl⟩, by show va_P D vwCl _ t.heap; rw [ht]; exact hP⟩, hS.F ht⟩) hS.2.2 dL_clerk_20)
set_option maxHeartbeats 4000000 in
set_option maxRecDepth 100000 in
theorem l_readerOf_0 (l : Launch) (D : va_G) (cI cR cS cL : ClassId) (sz : Nat) (o : Nat → Nat) (x : Nat → Nat → Nat) (v : Nat → Nat → Nat) (tl : va_W) (b : Nat) (r : Nat) (k : Nat) (a : Nat) (g : Nat → Int64) (hSI : s_I b v) (hb : b < 2 ^ 28) (hr : r < 4) (hk : k < 8) : vx_Met l yL_readerOf wsL_readerOf ({ frames := 4, cells := 0, slots := 0, locals := 88 }) (va_Pc [.ref (o 0), .int (nI r), .int (nI k), .ref a] (o_F D (o_T cI cR cS cL) ([ol cL a 1 g] ++ (wO o cI cR cS x v tl)) sz)) (va_Qi (fun rz (u : Nat → Int64) => rz = nI 0 ∧ u 0 = (nI ((c_rdr v r k))).toInt64) (fun (u : Nat → Int64) t => va_P D vwCl ([ol cL a 1 u] ++ (wO o cI cR cS x v tl)) t.heap) (va_A ([ol cL a 1 g] ++ (wO o cI cR cS x v tl)) sz)) o_x0 0 0 (va_A ([ol cL a 1 g] ++ (wO o cI cR cS x v tl)) sz) := by
  refine vx_ofWH (cc := cL_readerOf) (maxL := 5) (ret := (some .int)) (hh := [(0, 10, 13, 13), (0, 10, 17, 21)]) (by decide) rfl ?_
  intro p e s m args below meth cd s₁ B hml hv
  obtain ⟨rfl, hsz, hP, hK, hD0, hG⟩ := hv
  have hx := B.exec
  have hb := B.bytes
  have hrt := B.returns
  have hts := atoms_spec (ws := wsL_readerOf) B.pre
  have hown : s.vm.findClass RL = some m.cls := findClass_of_methodNamed B.named
  have hlocks := B.notSynchronized
  have htab := vx_table (x := yL_readerOf) B (hts _ List.mem_cons_self)
  subst hsz
  have hD := hD0.self (sz := s.heap.size)
  generalize hAe : va_A ([ol cL a 1 g] ++ (wO o cI cR cS x v tl)) s.heap.size = A at hD hG ⊢
  have hA : ∀ q : Nat, s.heap.size ≤ q → A q := fun q h => by rw [← hAe]; exact Or.inr h
  have hS : va_S A s.heap s.heap [] := va_S.rf
  have hN := hG.1
  have hl := lv_entry ([.ref (o 0), .int (nI r), .int (nI k), .ref a]) (n := 5) (Nat.le_of_ble_eq_true rfl)
  rw [lg_entry_eq]
  generalize (lg_sl ([.ref (o 0), .int (nI r), .int (nI k), .ref a]) ++ List.replicate (5 - (lg_sl ([.ref (o 0), .int (nI r), .int (nI k), .ref a])).length) Slot.unset).toArray = ls at hl ⊢
  have hl : lv_has ls 5 [(0, .ref (o 0)), (1, .int (nI r)), (2, .int (nI k)), (3, .ref a)] := hl
  refine lv_aload_n hx hb dL_readerOf_0 rfl (lv_at hl 3 rfl) ?_
  refine o_const (k := 0) hx hb dL_readerOf_1 (by decide) ?_
  refine lv_aload_n hx hb dL_readerOf_2 rfl (lv_at hl 0 rfl) ?_
  refine lv_iload_n hx hb dL_readerOf_3 rfl (lv_at hl 1 rfl) ?_
  refine lv_iload_n hx hb dL_readerOf_4 rfl (lv_at hl 2 rfl) ?_
  refine o_ri (va_runV (As := [.int (nI r), .int (nI k)]) (rest := [.int (nI 0), .ref a]) ⟨hx, hb, hml, hown, hts⟩ (k_X4_readerOf l D cI cR cS cL o x v tl b r k (by first | assumption | omega) (by first | assumption | omega) (by first | assumption | omega) (by first | assumption | omega)) (cwV 2 hts gL_readerOf_X4_readerOf rfl rfl rfl (by decide +kernel) ⟨Nat.le_of_ble_eq_true rfl, Nat.le_of_ble_eq_true rfl⟩) (o_v (o_pR hK hN (o_PT (pre := [ol cL a 1 g]) (ws := (wO o cI cR cS x v tl)) hP)) (va_recv hK hP (ci := 4) (q0 := 1) rfl rfl)) rfl rfl hl.1 rfl (lv_room (Nat.le_of_ble_eq_true rfl)) dL_readerOf_5 ⟨Nat.zero_le _, Nat.zero_le _⟩) (fun r1 e1 => ?_)
  subst e1
  refine lv_i2l (v := (nI ((c_rdr v r k))).toInt64) hx hb dL_readerOf_8 rfl ?_
  refine va_last (x := (nI ((c_rdr v r k))).toInt64) hx hb hK hP hD hS 0 3 rfl rfl (vp_in_nI (by decide) (by decide)) dL_readerOf_9 (fun H locs hP hD hS => ?_)
  have hu : vp_updL g (nI 0).toNatClampNeg ((nI ((c_rdr v r k))).toInt64) 0 = (nI ((c_rdr v r k))).toInt64 := by rw [nI_clamp (show 0 < 2 ^ 31 by decide)]; exact if_pos rfl
  generalize vp_updL g (nI 0).toNatClampNeg ((nI ((c_rdr v r k))).toInt64) = u at hu hP hD
  refine lv_goto (tgt := 21) hx hb dL_readerOf_10 (by decide) ?_
  refine o_const (k := 0) hx hb dL_readerOf_21 (by decide) ?_
  exact vx_ret (W.iret (v := nI 0) hx hb hrt (fun t ht hW => ⟨⟨_, u, rfl, ⟨rfl, hu⟩, by show va_P D vwCl _ t.heap; rw [ht]; exact hP⟩, hS.F ht⟩) hS.2.2 dL_readerOf_22)
set_option maxHeartbeats 4000000 in
set_option maxRecDepth 100000 in
theorem l_readerOf_1 (l : Launch) (D : va_G) (cI cR cS cL : ClassId) (hfl : l.stackTraces = false) (sz : Nat) (o : Nat → Nat) (x : Nat → Nat → Nat) (v : Nat → Nat → Nat) (tl : va_W) (b : Nat) (r : Nat) (k : Nat) (a : Nat) (g : Nat → Int64) (h0r : r < 2 ^ 32) (hbad : ¬ r < 4) : vx_Met l yL_readerOf wsL_readerOf ({ frames := 7, cells := 1, slots := 6, locals := 105 }) (va_Pc [.ref (o 0), .int (nI r), .int (nI k), .ref a] (o_F D (o_T cI cR cS cL) ([ol cL a 1 g] ++ (wO o cI cR cS x v tl)) sz)) (va_Qi (fun rz (u : Nat → Int64) => rz = nI 1 ∧ u = g) (fun (u : Nat → Int64) t => va_P D vwCl ([ol cL a 1 u] ++ (wO o cI cR cS x v tl)) t.heap) (va_A ([ol cL a 1 g] ++ (wO o cI cR cS x v tl)) sz)) o_x0 1 6 (va_A ([ol cL a 1 g] ++ (wO o cI cR cS x v tl)) sz) := by
  refine vx_ofWH (cc := cL_readerOf) (maxL := 5) (ret := (some .int)) (hh := [(0, 10, 13, 13), (0, 10, 17, 21)]) (by decide) rfl ?_
  intro p e s m args below meth cd s₁ B hml hv
  obtain ⟨rfl, hsz, hP, hK, hD0, hG⟩ := hv
  have hx := B.exec
  have hb := B.bytes
  have hrt := B.returns
  have hts := atoms_spec (ws := wsL_readerOf) B.pre
  have hown : s.vm.findClass RL = some m.cls := findClass_of_methodNamed B.named
  have hlocks := B.notSynchronized
  have htab := vx_table (x := yL_readerOf) B (hts _ List.mem_cons_self)
  subst hsz
  have hD := hD0.self (sz := s.heap.size)
  generalize hAe : va_A ([ol cL a 1 g] ++ (wO o cI cR cS x v tl)) s.heap.size = A at hD hG ⊢
  have hA : ∀ q : Nat, s.heap.size ≤ q → A q := fun q h => by rw [← hAe]; exact Or.inr h
  have hS : va_S A s.heap s.heap [] := va_S.rf
  have hN := hG.1
  have hl := lv_entry ([.ref (o 0), .int (nI r), .int (nI k), .ref a]) (n := 5) (Nat.le_of_ble_eq_true rfl)
  rw [lg_entry_eq]
  generalize (lg_sl ([.ref (o 0), .int (nI r), .int (nI k), .ref a]) ++ List.replicate (5 - (lg_sl ([.ref (o 0), .int (nI r), .int (nI k), .ref a])).length) Slot.unset).toArray = ls at hl ⊢
  have hl : lv_has ls 5 [(0, .ref (o 0)), (1, .int (nI r)), (2, .int (nI k)), (3, .ref a)] := hl
  refine lv_aload_n hx hb dL_readerOf_0 rfl (lv_at hl 3 rfl) ?_
  refine o_const (k := 0) hx hb dL_readerOf_1 (by decide) ?_
  refine lv_aload_n hx hb dL_readerOf_2 rfl (lv_at hl 0 rfl) ?_
  refine lv_iload_n hx hb dL_readerOf_3 rfl (lv_at hl 1 rfl) ?_
  refine lv_iload_n hx hb dL_readerOf_4 rfl (lv_at hl 2 rfl) ?_
  refine o_cx (E := nmI) (vx_runV (As := [.int (nI r), .int (nI k)]) (rest := [.int (nI 0), .ref a]) ⟨hx, hb, hml, hown, hts⟩ (x_X4_readerOf_1 l D cI cR cS cL hfl o x v tl b r k (by first | assumption | omega) (by first | assumption | omega)) (cwV 2 hts gL_readerOf_X4_readerOf rfl rfl rfl (by decide +kernel) ⟨Nat.le_of_ble_eq_true rfl, Nat.le_of_ble_eq_true rfl⟩) (o_v (o_pE hK hG (o_PT (pre := [ol cL a 1 g]) (ws := (wO o cI cR cS x v tl)) hP)) (va_recv hK hP (ci := 4) (q0 := 1) rfl rfl)) rfl rfl hl.1 rfl (lv_room (Nat.le_of_ble_eq_true rfl)) dL_readerOf_5 ⟨Nat.le_of_ble_eq_true rfl, Nat.le_of_ble_eq_true rfl⟩) hP hS (fun ce q9 H locs hP hS h1 h2 h3 => ?_)
  refine vx_catch (own := RL) (name := nmI) (E := nmI) hown [] ⟨0, 10, 13, 13⟩ [⟨0, 10, 17, 21⟩] htab (fun z hz => nomatch hz) (by decide) (by decide) (hts (.classLink RL 13 "java/lang/IndexOutOfBoundsException") (List.mem_of_getElem? (i := 1) (by decide +kernel))) (va_Nw.use (A := _) rfl hG.2.1.1.1) h1 h2 h3 ?_
  refine lv_astore (lv' := [(4, .ref q9), (0, .ref (o 0)), (1, .int (nI r)), (2, .int (nI k)), (3, .ref a)]) hx hb dL_readerOf_13 hl (by decide) rfl (fun ls hl => ?_)
  refine o_const (k := 1) hx hb dL_readerOf_15 (by decide) ?_
  exact vx_ret (W.iret (v := nI 1) hx hb hrt (fun t ht hW => ⟨⟨_, g, rfl, ⟨rfl, rfl⟩, by show va_P D vwCl _ t.heap; rw [ht]; exact hP⟩, hS.F ht⟩) hS.2.2 dL_readerOf_16)
set_option maxHeartbeats 4000000 in
set_option maxRecDepth 100000 in
theorem l_readerOf_2 (l : Launch) (D : va_G) (cI cR cS cL : ClassId) (hfl : l.stackTraces = false) (sz : Nat) (o : Nat → Nat) (x : Nat → Nat → Nat) (v : Nat → Nat → Nat) (tl : va_W) (b : Nat) (r : Nat) (k : Nat) (a : Nat) (g : Nat → Int64) (hr : r < 4) (h0k : k < 2 ^ 32) (hbad : ¬ k < 8) : vx_Met l yL_readerOf wsL_readerOf ({ frames := 7, cells := 1, slots := 6, locals := 105 }) (va_Pc [.ref (o 0), .int (nI r), .int (nI k), .ref a] (o_F D (o_T cI cR cS cL) ([ol cL a 1 g] ++ (wO o cI cR cS x v tl)) sz)) (va_Qi (fun rz (u : Nat → Int64) => rz = nI 2 ∧ u = g) (fun (u : Nat → Int64) t => va_P D vwCl ([ol cL a 1 u] ++ (wO o cI cR cS x v tl)) t.heap) (va_A ([ol cL a 1 g] ++ (wO o cI cR cS x v tl)) sz)) o_x0 1 6 (va_A ([ol cL a 1 g] ++ (wO o cI cR cS x v tl)) sz) := by
  refine vx_ofWH (cc := cL_readerOf) (maxL := 5) (ret := (some .int)) (hh := [(0, 10, 13, 13), (0, 10, 17, 21)]) (by decide) rfl ?_
  intro p e s m args below meth cd s₁ B hml hv
  obtain ⟨rfl, hsz, hP, hK, hD0, hG⟩ := hv
  have hx := B.exec
  have hb := B.bytes
  have hrt := B.returns
  have hts := atoms_spec (ws := wsL_readerOf) B.pre
  have hown : s.vm.findClass RL = some m.cls := findClass_of_methodNamed B.named
  have hlocks := B.notSynchronized
  have htab := vx_table (x := yL_readerOf) B (hts _ List.mem_cons_self)
  subst hsz
  have hD := hD0.self (sz := s.heap.size)
  generalize hAe : va_A ([ol cL a 1 g] ++ (wO o cI cR cS x v tl)) s.heap.size = A at hD hG ⊢
  have hA : ∀ q : Nat, s.heap.size ≤ q → A q := fun q h => by rw [← hAe]; exact Or.inr h
  have hS : va_S A s.heap s.heap [] := va_S.rf
  have hN := hG.1
  have hl := lv_entry ([.ref (o 0), .int (nI r), .int (nI k), .ref a]) (n := 5) (Nat.le_of_ble_eq_true rfl)
  rw [lg_entry_eq]
  generalize (lg_sl ([.ref (o 0), .int (nI r), .int (nI k), .ref a]) ++ List.replicate (5 - (lg_sl ([.ref (o 0), .int (nI r), .int (nI k), .ref a])).length) Slot.unset).toArray = ls at hl ⊢
  have hl : lv_has ls 5 [(0, .ref (o 0)), (1, .int (nI r)), (2, .int (nI k)), (3, .ref a)] := hl
  refine lv_aload_n hx hb dL_readerOf_0 rfl (lv_at hl 3 rfl) ?_
  refine o_const (k := 0) hx hb dL_readerOf_1 (by decide) ?_
  refine lv_aload_n hx hb dL_readerOf_2 rfl (lv_at hl 0 rfl) ?_
  refine lv_iload_n hx hb dL_readerOf_3 rfl (lv_at hl 1 rfl) ?_
  refine lv_iload_n hx hb dL_readerOf_4 rfl (lv_at hl 2 rfl) ?_
  refine o_cx (E := nmA) (vx_runV (As := [.int (nI r), .int (nI k)]) (rest := [.int (nI 0), .ref a]) ⟨hx, hb, hml, hown, hts⟩ (x_X4_readerOf_2 l D cI cR cS cL hfl o x v tl b r k (by first | assumption | omega) (by first | assumption | omega) (by first | assumption | omega)) (cwV 2 hts gL_readerOf_X4_readerOf rfl rfl rfl (by decide +kernel) ⟨Nat.le_of_ble_eq_true rfl, Nat.le_of_ble_eq_true rfl⟩) (o_v (o_pE hK hG (o_PT (pre := [ol cL a 1 g]) (ws := (wO o cI cR cS x v tl)) hP)) (va_recv hK hP (ci := 4) (q0 := 1) rfl rfl)) rfl rfl hl.1 rfl (lv_room (Nat.le_of_ble_eq_true rfl)) dL_readerOf_5 ⟨Nat.le_of_ble_eq_true rfl, Nat.le_of_ble_eq_true rfl⟩) hP hS (fun ce q9 H locs hP hS h1 h2 h3 => ?_)
  refine vx_catch (own := RL) (name := nmA) (E := nmA) hown [⟨0, 10, 13, 13⟩] ⟨0, 10, 17, 21⟩ [] htab (List.forall_mem_cons.mpr ⟨Or.inr ⟨by decide, nmI, (hts (.classLink RL 13 "java/lang/IndexOutOfBoundsException") (List.mem_of_getElem? (i := 1) (by decide +kernel))), hG.2.1.2.2.1⟩, (fun _ h => nomatch h)⟩) (by decide) (by decide) (hts (.classLink RL 21 "java/lang/IllegalArgumentException") (List.mem_of_getElem? (i := 2) (by decide +kernel))) (va_Nw.use (A := _) rfl hG.2.1.1.2.1) h1 h2 h3 ?_
  refine lv_astore (lv' := [(4, .ref q9), (0, .ref (o 0)), (1, .int (nI r)), (2, .int (nI k)), (3, .ref a)]) hx hb dL_readerOf_17 hl (by decide) rfl (fun ls hl => ?_)
  refine o_const (k := 2) hx hb dL_readerOf_19 (by decide) ?_
  exact vx_ret (W.iret (v := nI 2) hx hb hrt (fun t ht hW => ⟨⟨_, g, rfl, ⟨rfl, rfl⟩, by show va_P D vwCl _ t.heap; rw [ht]; exact hP⟩, hS.F ht⟩) hS.2.2 dL_readerOf_20)
set_option maxHeartbeats 4000000 in
set_option maxRecDepth 100000 in
theorem l_has_0 (l : Launch) (D : va_G) (cI cR cS cL : ClassId) (sz : Nat) (o : Nat → Nat) (x : Nat → Nat → Nat) (v : Nat → Nat → Nat) (tl : va_W) (b : Nat) (r : Nat) (f : Nat) (a : Nat) (g : Nat → Int64) (hSI : s_I b v) (hb : b < 2 ^ 28) (hr : r < 4) (hf : f < 5) : vx_Met l yL_has wsL_has ({ frames := 2, cells := 0, slots := 0, locals := 44 }) (va_Pc [.ref (o 0), .int (nI r), .int (nI f), .ref a] (o_F D (o_T cI cR cS cL) ([ol cL a 1 g] ++ (wO o cI cR cS x v tl)) sz)) (va_Qi (fun rz (u : Nat → Int64) => rz = nI 0 ∧ u 0 = (nI ((c_has v r f))).toInt64) (fun (u : Nat → Int64) t => va_P D vwCl ([ol cL a 1 u] ++ (wO o cI cR cS x v tl)) t.heap) (va_A ([ol cL a 1 g] ++ (wO o cI cR cS x v tl)) sz)) o_x0 0 0 (va_A ([ol cL a 1 g] ++ (wO o cI cR cS x v tl)) sz) := by
  refine vx_ofWH (cc := cL_has) (maxL := 5) (ret := (some .int)) (hh := [(0, 10, 13, 13)]) (by decide) rfl ?_
  intro p e s m args below meth cd s₁ B hml hv
  obtain ⟨rfl, hsz, hP, hK, hD0, hG⟩ := hv
  have hx := B.exec
  have hb := B.bytes
  have hrt := B.returns
  have hts := atoms_spec (ws := wsL_has) B.pre
  have hown : s.vm.findClass RL = some m.cls := findClass_of_methodNamed B.named
  have hlocks := B.notSynchronized
  have htab := vx_table (x := yL_has) B (hts _ List.mem_cons_self)
  subst hsz
  have hD := hD0.self (sz := s.heap.size)
  generalize hAe : va_A ([ol cL a 1 g] ++ (wO o cI cR cS x v tl)) s.heap.size = A at hD hG ⊢
  have hA : ∀ q : Nat, s.heap.size ≤ q → A q := fun q h => by rw [← hAe]; exact Or.inr h
  have hS : va_S A s.heap s.heap [] := va_S.rf
  have hN := hG.1
  have hl := lv_entry ([.ref (o 0), .int (nI r), .int (nI f), .ref a]) (n := 5) (Nat.le_of_ble_eq_true rfl)
  rw [lg_entry_eq]
  generalize (lg_sl ([.ref (o 0), .int (nI r), .int (nI f), .ref a]) ++ List.replicate (5 - (lg_sl ([.ref (o 0), .int (nI r), .int (nI f), .ref a])).length) Slot.unset).toArray = ls at hl ⊢
  have hl : lv_has ls 5 [(0, .ref (o 0)), (1, .int (nI r)), (2, .int (nI f)), (3, .ref a)] := hl
  refine lv_aload_n hx hb dL_has_0 rfl (lv_at hl 3 rfl) ?_
  refine o_const (k := 0) hx hb dL_has_1 (by decide) ?_
  refine lv_aload_n hx hb dL_has_2 rfl (lv_at hl 0 rfl) ?_
  refine lv_iload_n hx hb dL_has_3 rfl (lv_at hl 1 rfl) ?_
  refine lv_iload_n hx hb dL_has_4 rfl (lv_at hl 2 rfl) ?_
  refine o_ri (va_runV (As := [.int (nI r), .int (nI f)]) (rest := [.int (nI 0), .ref a]) ⟨hx, hb, hml, hown, hts⟩ (k_X4_has l D cI cR cS cL o x v tl b r f (by first | assumption | omega) (by first | assumption | omega) (by first | assumption | omega) (by first | assumption | omega)) (cwV 2 hts gL_has_X4_has rfl rfl rfl (by decide +kernel) ⟨Nat.le_of_ble_eq_true rfl, Nat.le_of_ble_eq_true rfl⟩) (o_v (o_pR hK hN (o_PT (pre := [ol cL a 1 g]) (ws := (wO o cI cR cS x v tl)) hP)) (va_recv hK hP (ci := 4) (q0 := 1) rfl rfl)) rfl rfl hl.1 rfl (lv_room (Nat.le_of_ble_eq_true rfl)) dL_has_5 ⟨Nat.zero_le _, Nat.zero_le _⟩) (fun r1 e1 => ?_)
  subst e1
  refine lv_i2l (v := (nI ((c_has v r f))).toInt64) hx hb dL_has_8 rfl ?_
  refine va_last (x := (nI ((c_has v r f))).toInt64) hx hb hK hP hD hS 0 3 rfl rfl (vp_in_nI (by decide) (by decide)) dL_has_9 (fun H locs hP hD hS => ?_)
  have hu : vp_updL g (nI 0).toNatClampNeg ((nI ((c_has v r f))).toInt64) 0 = (nI ((c_has v r f))).toInt64 := by rw [nI_clamp (show 0 < 2 ^ 31 by decide)]; exact if_pos rfl
  generalize vp_updL g (nI 0).toNatClampNeg ((nI ((c_has v r f))).toInt64) = u at hu hP hD
  refine lv_goto (tgt := 17) hx hb dL_has_10 (by decide) ?_
  refine o_const (k := 0) hx hb dL_has_17 (by decide) ?_
  exact vx_ret (W.iret (v := nI 0) hx hb hrt (fun t ht hW => ⟨⟨_, u, rfl, ⟨rfl, hu⟩, by show va_P D vwCl _ t.heap; rw [ht]; exact hP⟩, hS.F ht⟩) hS.2.2 dL_has_18)
set_option maxHeartbeats 4000000 in
set_option maxRecDepth 100000 in
theorem l_has_1a (l : Launch) (D : va_G) (cI cR cS cL : ClassId) (hfl : l.stackTraces = false) (sz : Nat) (o : Nat → Nat) (x : Nat → Nat → Nat) (v : Nat → Nat → Nat) (tl : va_W) (b : Nat) (r : Nat) (f : Nat) (a : Nat) (g : Nat → Int64) (h0r : r < 2 ^ 32) (hbad : ¬ r < 4) : vx_Met l yL_has wsL_has ({ frames := 7, cells := 1, slots := 6, locals := 105 }) (va_Pc [.ref (o 0), .int (nI r), .int (nI f), .ref a] (o_F D (o_T cI cR cS cL) ([ol cL a 1 g] ++ (wO o cI cR cS x v tl)) sz)) (va_Qi (fun rz (u : Nat → Int64) => rz = nI 1 ∧ u = g) (fun (u : Nat → Int64) t => va_P D vwCl ([ol cL a 1 u] ++ (wO o cI cR cS x v tl)) t.heap) (va_A ([ol cL a 1 g] ++ (wO o cI cR cS x v tl)) sz)) o_x0 1 6 (va_A ([ol cL a 1 g] ++ (wO o cI cR cS x v tl)) sz) := by
  refine vx_ofWH (cc := cL_has) (maxL := 5) (ret := (some .int)) (hh := [(0, 10, 13, 13)]) (by decide) rfl ?_
  intro p e s m args below meth cd s₁ B hml hv
  obtain ⟨rfl, hsz, hP, hK, hD0, hG⟩ := hv
  have hx := B.exec
  have hb := B.bytes
  have hrt := B.returns
  have hts := atoms_spec (ws := wsL_has) B.pre
  have hown : s.vm.findClass RL = some m.cls := findClass_of_methodNamed B.named
  have hlocks := B.notSynchronized
  have htab := vx_table (x := yL_has) B (hts _ List.mem_cons_self)
  subst hsz
  have hD := hD0.self (sz := s.heap.size)
  generalize hAe : va_A ([ol cL a 1 g] ++ (wO o cI cR cS x v tl)) s.heap.size = A at hD hG ⊢
  have hA : ∀ q : Nat, s.heap.size ≤ q → A q := fun q h => by rw [← hAe]; exact Or.inr h
  have hS : va_S A s.heap s.heap [] := va_S.rf
  have hN := hG.1
  have hl := lv_entry ([.ref (o 0), .int (nI r), .int (nI f), .ref a]) (n := 5) (Nat.le_of_ble_eq_true rfl)
  rw [lg_entry_eq]
  generalize (lg_sl ([.ref (o 0), .int (nI r), .int (nI f), .ref a]) ++ List.replicate (5 - (lg_sl ([.ref (o 0), .int (nI r), .int (nI f), .ref a])).length) Slot.unset).toArray = ls at hl ⊢
  have hl : lv_has ls 5 [(0, .ref (o 0)), (1, .int (nI r)), (2, .int (nI f)), (3, .ref a)] := hl
  refine lv_aload_n hx hb dL_has_0 rfl (lv_at hl 3 rfl) ?_
  refine o_const (k := 0) hx hb dL_has_1 (by decide) ?_
  refine lv_aload_n hx hb dL_has_2 rfl (lv_at hl 0 rfl) ?_
  refine lv_iload_n hx hb dL_has_3 rfl (lv_at hl 1 rfl) ?_
  refine lv_iload_n hx hb dL_has_4 rfl (lv_at hl 2 rfl) ?_
  refine o_cx (E := nmI) (vx_runV (As := [.int (nI r), .int (nI f)]) (rest := [.int (nI 0), .ref a]) ⟨hx, hb, hml, hown, hts⟩ (x_X4_has_1a l D cI cR cS cL hfl o x v tl b r f (by first | assumption | omega) (by first | assumption | omega)) (cwV 2 hts gL_has_X4_has rfl rfl rfl (by decide +kernel) ⟨Nat.le_of_ble_eq_true rfl, Nat.le_of_ble_eq_true rfl⟩) (o_v (o_pE hK hG (o_PT (pre := [ol cL a 1 g]) (ws := (wO o cI cR cS x v tl)) hP)) (va_recv hK hP (ci := 4) (q0 := 1) rfl rfl)) rfl rfl hl.1 rfl (lv_room (Nat.le_of_ble_eq_true rfl)) dL_has_5 ⟨Nat.le_of_ble_eq_true rfl, Nat.le_of_ble_eq_true rfl⟩) hP hS (fun ce q9 H locs hP hS h1 h2 h3 => ?_)
  refine vx_catch (own := RL) (name := nmI) (E := nmI) hown [] ⟨0, 10, 13, 13⟩ [] htab (fun z hz => nomatch hz) (by decide) (by decide) (hts (.classLink RL 13 "java/lang/IndexOutOfBoundsException") (List.mem_of_getElem? (i := 1) (by decide +kernel))) (va_Nw.use (A := _) rfl hG.2.1.1.1) h1 h2 h3 ?_
  refine lv_astore (lv' := [(4, .ref q9), (0, .ref (o 0)), (1, .int (nI r)), (2, .int (nI f)), (3, .ref a)]) hx hb dL_has_13 hl (by decide) rfl (fun ls hl => ?_)
  refine o_const (k := 1) hx hb dL_has_15 (by decide) ?_
  exact vx_ret (W.iret (v := nI 1) hx hb hrt (fun t ht hW => ⟨⟨_, g, rfl, ⟨rfl, rfl⟩, by show va_P D vwCl _ t.heap; rw [ht]; exact hP⟩, hS.F ht⟩) hS.2.2 dL_has_16)
set_option maxHeartbeats 4000000 in
set_option maxRecDepth 100000 in
theorem l_has_1b (l : Launch) (D : va_G) (cI cR cS cL : ClassId) (hfl : l.stackTraces = false) (sz : Nat) (o : Nat → Nat) (x : Nat → Nat → Nat) (v : Nat → Nat → Nat) (tl : va_W) (b : Nat) (r : Nat) (f : Nat) (a : Nat) (g : Nat → Int64) (hr : r < 4) (h0f : f < 2 ^ 32) (hbad : ¬ f < 5) : vx_Met l yL_has wsL_has ({ frames := 7, cells := 1, slots := 6, locals := 105 }) (va_Pc [.ref (o 0), .int (nI r), .int (nI f), .ref a] (o_F D (o_T cI cR cS cL) ([ol cL a 1 g] ++ (wO o cI cR cS x v tl)) sz)) (va_Qi (fun rz (u : Nat → Int64) => rz = nI 1 ∧ u = g) (fun (u : Nat → Int64) t => va_P D vwCl ([ol cL a 1 u] ++ (wO o cI cR cS x v tl)) t.heap) (va_A ([ol cL a 1 g] ++ (wO o cI cR cS x v tl)) sz)) o_x0 1 6 (va_A ([ol cL a 1 g] ++ (wO o cI cR cS x v tl)) sz) := by
  refine vx_ofWH (cc := cL_has) (maxL := 5) (ret := (some .int)) (hh := [(0, 10, 13, 13)]) (by decide) rfl ?_
  intro p e s m args below meth cd s₁ B hml hv
  obtain ⟨rfl, hsz, hP, hK, hD0, hG⟩ := hv
  have hx := B.exec
  have hb := B.bytes
  have hrt := B.returns
  have hts := atoms_spec (ws := wsL_has) B.pre
  have hown : s.vm.findClass RL = some m.cls := findClass_of_methodNamed B.named
  have hlocks := B.notSynchronized
  have htab := vx_table (x := yL_has) B (hts _ List.mem_cons_self)
  subst hsz
  have hD := hD0.self (sz := s.heap.size)
  generalize hAe : va_A ([ol cL a 1 g] ++ (wO o cI cR cS x v tl)) s.heap.size = A at hD hG ⊢
  have hA : ∀ q : Nat, s.heap.size ≤ q → A q := fun q h => by rw [← hAe]; exact Or.inr h
  have hS : va_S A s.heap s.heap [] := va_S.rf
  have hN := hG.1
  have hl := lv_entry ([.ref (o 0), .int (nI r), .int (nI f), .ref a]) (n := 5) (Nat.le_of_ble_eq_true rfl)
  rw [lg_entry_eq]
  generalize (lg_sl ([.ref (o 0), .int (nI r), .int (nI f), .ref a]) ++ List.replicate (5 - (lg_sl ([.ref (o 0), .int (nI r), .int (nI f), .ref a])).length) Slot.unset).toArray = ls at hl ⊢
  have hl : lv_has ls 5 [(0, .ref (o 0)), (1, .int (nI r)), (2, .int (nI f)), (3, .ref a)] := hl
  refine lv_aload_n hx hb dL_has_0 rfl (lv_at hl 3 rfl) ?_
  refine o_const (k := 0) hx hb dL_has_1 (by decide) ?_
  refine lv_aload_n hx hb dL_has_2 rfl (lv_at hl 0 rfl) ?_
  refine lv_iload_n hx hb dL_has_3 rfl (lv_at hl 1 rfl) ?_
  refine lv_iload_n hx hb dL_has_4 rfl (lv_at hl 2 rfl) ?_
  refine o_cx (E := nmI) (vx_runV (As := [.int (nI r), .int (nI f)]) (rest := [.int (nI 0), .ref a]) ⟨hx, hb, hml, hown, hts⟩ (x_X4_has_1b l D cI cR cS cL hfl o x v tl b r f (by first | assumption | omega) (by first | assumption | omega) (by first | assumption | omega)) (cwV 2 hts gL_has_X4_has rfl rfl rfl (by decide +kernel) ⟨Nat.le_of_ble_eq_true rfl, Nat.le_of_ble_eq_true rfl⟩) (o_v (o_pE hK hG (o_PT (pre := [ol cL a 1 g]) (ws := (wO o cI cR cS x v tl)) hP)) (va_recv hK hP (ci := 4) (q0 := 1) rfl rfl)) rfl rfl hl.1 rfl (lv_room (Nat.le_of_ble_eq_true rfl)) dL_has_5 ⟨Nat.le_of_ble_eq_true rfl, Nat.le_of_ble_eq_true rfl⟩) hP hS (fun ce q9 H locs hP hS h1 h2 h3 => ?_)
  refine vx_catch (own := RL) (name := nmI) (E := nmI) hown [] ⟨0, 10, 13, 13⟩ [] htab (fun z hz => nomatch hz) (by decide) (by decide) (hts (.classLink RL 13 "java/lang/IndexOutOfBoundsException") (List.mem_of_getElem? (i := 1) (by decide +kernel))) (va_Nw.use (A := _) rfl hG.2.1.1.1) h1 h2 h3 ?_
  refine lv_astore (lv' := [(4, .ref q9), (0, .ref (o 0)), (1, .int (nI r)), (2, .int (nI f)), (3, .ref a)]) hx hb dL_has_13 hl (by decide) rfl (fun ls hl => ?_)
  refine o_const (k := 1) hx hb dL_has_15 (by decide) ?_
  exact vx_ret (W.iret (v := nI 1) hx hb hrt (fun t ht hW => ⟨⟨_, g, rfl, ⟨rfl, rfl⟩, by show va_P D vwCl _ t.heap; rw [ht]; exact hP⟩, hS.F ht⟩) hS.2.2 dL_has_16)
set_option maxHeartbeats 4000000 in
set_option maxRecDepth 100000 in
theorem l_count_0 (l : Launch) (D : va_G) (cI cR cS cL : ClassId) (sz : Nat) (o : Nat → Nat) (x : Nat → Nat → Nat) (v : Nat → Nat → Nat) (tl : va_W) (b : Nat) (k : Nat) (a : Nat) (g : Nat → Int64) (hSI : s_I b v) (hb : b < 2 ^ 28) (hk : k < 9) : vx_Met l yL_count wsL_count ({ frames := 3, cells := 0, slots := 0, locals := 64 }) (va_Pc [.ref (o 0), .int (nI k), .ref a] (o_F D (o_T cI cR cS cL) ([ol cL a 1 g] ++ (wO o cI cR cS x v tl)) sz)) (va_Qi (fun rz (u : Nat → Int64) => rz = nI 0 ∧ u 0 = (nI ((c_cnt v (x 0 4) k))).toInt64) (fun (u : Nat → Int64) t => va_P D vwCl ([ol cL a 1 u] ++ (wO o cI cR cS x v tl)) t.heap) (va_A ([ol cL a 1 g] ++ (wO o cI cR cS x v tl)) sz)) o_x0 0 0 (va_A ([ol cL a 1 g] ++ (wO o cI cR cS x v tl)) sz) := by
  refine vx_ofWH (cc := cL_count) (maxL := 4) (ret := (some .int)) (hh := [(0, 9, 12, 21)]) (by decide) rfl ?_
  intro p e s m args below meth cd s₁ B hml hv
  obtain ⟨rfl, hsz, hP, hK, hD0, hG⟩ := hv
  have hx := B.exec
  have hb := B.bytes
  have hrt := B.returns
  have hts := atoms_spec (ws := wsL_count) B.pre
  have hown : s.vm.findClass RL = some m.cls := findClass_of_methodNamed B.named
  have hlocks := B.notSynchronized
  have htab := vx_table (x := yL_count) B (hts _ List.mem_cons_self)
  subst hsz
  have hD := hD0.self (sz := s.heap.size)
  generalize hAe : va_A ([ol cL a 1 g] ++ (wO o cI cR cS x v tl)) s.heap.size = A at hD hG ⊢
  have hA : ∀ q : Nat, s.heap.size ≤ q → A q := fun q h => by rw [← hAe]; exact Or.inr h
  have hS : va_S A s.heap s.heap [] := va_S.rf
  have hN := hG.1
  have hl := lv_entry ([.ref (o 0), .int (nI k), .ref a]) (n := 4) (Nat.le_of_ble_eq_true rfl)
  rw [lg_entry_eq]
  generalize (lg_sl ([.ref (o 0), .int (nI k), .ref a]) ++ List.replicate (4 - (lg_sl ([.ref (o 0), .int (nI k), .ref a])).length) Slot.unset).toArray = ls at hl ⊢
  have hl : lv_has ls 4 [(0, .ref (o 0)), (1, .int (nI k)), (2, .ref a)] := hl
  refine lv_aload_n hx hb dL_count_0 rfl (lv_at hl 2 rfl) ?_
  refine o_const (k := 0) hx hb dL_count_1 (by decide) ?_
  refine lv_aload_n hx hb dL_count_2 rfl (lv_at hl 0 rfl) ?_
  refine lv_iload_n hx hb dL_count_3 rfl (lv_at hl 1 rfl) ?_
  refine o_ri (va_runV (As := [.int (nI k)]) (rest := [.int (nI 0), .ref a]) ⟨hx, hb, hml, hown, hts⟩ (k_X4_count l D cI cR cS cL o x v tl b k (by first | assumption | omega) (by first | assumption | omega) (by first | assumption | omega)) (cwV 1 hts gL_count_X4_count rfl rfl rfl (by decide +kernel) ⟨Nat.le_of_ble_eq_true rfl, Nat.le_of_ble_eq_true rfl⟩) (o_v (o_pR hK hN (o_PT (pre := [ol cL a 1 g]) (ws := (wO o cI cR cS x v tl)) hP)) (va_recv hK hP (ci := 4) (q0 := 1) rfl rfl)) rfl rfl hl.1 rfl (lv_room (Nat.le_of_ble_eq_true rfl)) dL_count_4 ⟨Nat.zero_le _, Nat.zero_le _⟩) (fun r1 e1 => ?_)
  subst e1
  refine lv_i2l (v := (nI ((c_cnt v (x 0 4) k))).toInt64) hx hb dL_count_7 rfl ?_
  refine va_last (x := (nI ((c_cnt v (x 0 4) k))).toInt64) hx hb hK hP hD hS 0 3 rfl rfl (vp_in_nI (by decide) (by decide)) dL_count_8 (fun H locs hP hD hS => ?_)
  have hu : vp_updL g (nI 0).toNatClampNeg ((nI ((c_cnt v (x 0 4) k))).toInt64) 0 = (nI ((c_cnt v (x 0 4) k))).toInt64 := by rw [nI_clamp (show 0 < 2 ^ 31 by decide)]; exact if_pos rfl
  generalize vp_updL g (nI 0).toNatClampNeg ((nI ((c_cnt v (x 0 4) k))).toInt64) = u at hu hP hD
  refine lv_goto (tgt := 15) hx hb dL_count_9 (by decide) ?_
  refine o_const (k := 0) hx hb dL_count_15 (by decide) ?_
  exact vx_ret (W.iret (v := nI 0) hx hb hrt (fun t ht hW => ⟨⟨_, u, rfl, ⟨rfl, hu⟩, by show va_P D vwCl _ t.heap; rw [ht]; exact hP⟩, hS.F ht⟩) hS.2.2 dL_count_16)
set_option maxHeartbeats 4000000 in
set_option maxRecDepth 100000 in
theorem l_count_1 (l : Launch) (D : va_G) (cI cR cS cL : ClassId) (hfl : l.stackTraces = false) (sz : Nat) (o : Nat → Nat) (x : Nat → Nat → Nat) (v : Nat → Nat → Nat) (tl : va_W) (b : Nat) (k : Nat) (a : Nat) (g : Nat → Int64) (h0k : k < 2 ^ 32) (hbad : ¬ k < 9) : vx_Met l yL_count wsL_count ({ frames := 7, cells := 1, slots := 6, locals := 103 }) (va_Pc [.ref (o 0), .int (nI k), .ref a] (o_F D (o_T cI cR cS cL) ([ol cL a 1 g] ++ (wO o cI cR cS x v tl)) sz)) (va_Qi (fun rz (u : Nat → Int64) => rz = nI 1 ∧ u = g) (fun (u : Nat → Int64) t => va_P D vwCl ([ol cL a 1 u] ++ (wO o cI cR cS x v tl)) t.heap) (va_A ([ol cL a 1 g] ++ (wO o cI cR cS x v tl)) sz)) o_x0 1 6 (va_A ([ol cL a 1 g] ++ (wO o cI cR cS x v tl)) sz) := by
  refine vx_ofWH (cc := cL_count) (maxL := 4) (ret := (some .int)) (hh := [(0, 9, 12, 21)]) (by decide) rfl ?_
  intro p e s m args below meth cd s₁ B hml hv
  obtain ⟨rfl, hsz, hP, hK, hD0, hG⟩ := hv
  have hx := B.exec
  have hb := B.bytes
  have hrt := B.returns
  have hts := atoms_spec (ws := wsL_count) B.pre
  have hown : s.vm.findClass RL = some m.cls := findClass_of_methodNamed B.named
  have hlocks := B.notSynchronized
  have htab := vx_table (x := yL_count) B (hts _ List.mem_cons_self)
  subst hsz
  have hD := hD0.self (sz := s.heap.size)
  generalize hAe : va_A ([ol cL a 1 g] ++ (wO o cI cR cS x v tl)) s.heap.size = A at hD hG ⊢
  have hA : ∀ q : Nat, s.heap.size ≤ q → A q := fun q h => by rw [← hAe]; exact Or.inr h
  have hS : va_S A s.heap s.heap [] := va_S.rf
  have hN := hG.1
  have hl := lv_entry ([.ref (o 0), .int (nI k), .ref a]) (n := 4) (Nat.le_of_ble_eq_true rfl)
  rw [lg_entry_eq]
  generalize (lg_sl ([.ref (o 0), .int (nI k), .ref a]) ++ List.replicate (4 - (lg_sl ([.ref (o 0), .int (nI k), .ref a])).length) Slot.unset).toArray = ls at hl ⊢
  have hl : lv_has ls 4 [(0, .ref (o 0)), (1, .int (nI k)), (2, .ref a)] := hl
  refine lv_aload_n hx hb dL_count_0 rfl (lv_at hl 2 rfl) ?_
  refine o_const (k := 0) hx hb dL_count_1 (by decide) ?_
  refine lv_aload_n hx hb dL_count_2 rfl (lv_at hl 0 rfl) ?_
  refine lv_iload_n hx hb dL_count_3 rfl (lv_at hl 1 rfl) ?_
  refine o_cx (E := nmA) (vx_runV (As := [.int (nI k)]) (rest := [.int (nI 0), .ref a]) ⟨hx, hb, hml, hown, hts⟩ (x_X4_count_1 l D cI cR cS cL hfl o x v tl b k (by first | assumption | omega) (by first | assumption | omega)) (cwV 1 hts gL_count_X4_count rfl rfl rfl (by decide +kernel) ⟨Nat.le_of_ble_eq_true rfl, Nat.le_of_ble_eq_true rfl⟩) (o_v (o_pE hK hG (o_PT (pre := [ol cL a 1 g]) (ws := (wO o cI cR cS x v tl)) hP)) (va_recv hK hP (ci := 4) (q0 := 1) rfl rfl)) rfl rfl hl.1 rfl (lv_room (Nat.le_of_ble_eq_true rfl)) dL_count_4 ⟨Nat.le_of_ble_eq_true rfl, Nat.le_of_ble_eq_true rfl⟩) hP hS (fun ce q9 H locs hP hS h1 h2 h3 => ?_)
  refine vx_catch (own := RL) (name := nmA) (E := nmA) hown [] ⟨0, 9, 12, 21⟩ [] htab (fun z hz => nomatch hz) (by decide) (by decide) (hts (.classLink RL 21 "java/lang/IllegalArgumentException") (List.mem_of_getElem? (i := 1) (by decide +kernel))) (va_Nw.use (A := _) rfl hG.2.1.1.2.1) h1 h2 h3 ?_
  refine lv_astore_n (lv' := [(3, .ref q9), (0, .ref (o 0)), (1, .int (nI k)), (2, .ref a)]) hx hb dL_count_12 rfl hl (by decide) rfl (fun ls hl => ?_)
  refine o_const (k := 1) hx hb dL_count_13 (by decide) ?_
  exact vx_ret (W.iret (v := nI 1) hx hb hrt (fun t ht hW => ⟨⟨_, g, rfl, ⟨rfl, rfl⟩, by show va_P D vwCl _ t.heap; rw [ht]; exact hP⟩, hS.F ht⟩) hS.2.2 dL_count_14)
set_option maxHeartbeats 4000000 in
set_option maxRecDepth 100000 in
theorem l_ifRead_0 (l : Launch) (D : va_G) (cI cR cS cL : ClassId) (sz : Nat) (o : Nat → Nat) (x : Nat → Nat → Nat) (v : Nat → Nat → Nat) (tl : va_W) (b : Nat) (r : Nat) (a : Nat) (g : Nat → Int64) (hSI : s_I b v) (hb : b < 2 ^ 28) (hr : r < 4) : vx_Met l yL_ifRead wsL_ifRead ({ frames := 4, cells := 0, slots := 0, locals := 84 }) (va_Pc [.ref (o 0), .int (nI r), .ref a] (o_F D (o_T cI cR cS cL) ([ol cL a 1 g] ++ (wO o cI cR cS x v tl)) sz)) (va_Qi (fun rz (u : Nat → Int64) => rz = nI 0 ∧ u 0 = (nI ((s_out v r))).toInt64) (fun (u : Nat → Int64) t => va_P D vwCl ([ol cL a 1 u] ++ (wO o cI cR cS x v tl)) t.heap) (va_A ([ol cL a 1 g] ++ (wO o cI cR cS x v tl)) sz)) o_x0 0 0 (va_A ([ol cL a 1 g] ++ (wO o cI cR cS x v tl)) sz) := by
  refine vx_ofWH (cc := cL_ifRead) (maxL := 4) (ret := (some .int)) (hh := [(0, 9, 12, 13)]) (by decide) rfl ?_
  intro p e s m args below meth cd s₁ B hml hv
  obtain ⟨rfl, hsz, hP, hK, hD0, hG⟩ := hv
  have hx := B.exec
  have hb := B.bytes
  have hrt := B.returns
  have hts := atoms_spec (ws := wsL_ifRead) B.pre
  have hown : s.vm.findClass RL = some m.cls := findClass_of_methodNamed B.named
  have hlocks := B.notSynchronized
  have htab := vx_table (x := yL_ifRead) B (hts _ List.mem_cons_self)
  subst hsz
  have hD := hD0.self (sz := s.heap.size)
  generalize hAe : va_A ([ol cL a 1 g] ++ (wO o cI cR cS x v tl)) s.heap.size = A at hD hG ⊢
  have hA : ∀ q : Nat, s.heap.size ≤ q → A q := fun q h => by rw [← hAe]; exact Or.inr h
  have hS : va_S A s.heap s.heap [] := va_S.rf
  have hN := hG.1
  have hl := lv_entry ([.ref (o 0), .int (nI r), .ref a]) (n := 4) (Nat.le_of_ble_eq_true rfl)
  rw [lg_entry_eq]
  generalize (lg_sl ([.ref (o 0), .int (nI r), .ref a]) ++ List.replicate (4 - (lg_sl ([.ref (o 0), .int (nI r), .ref a])).length) Slot.unset).toArray = ls at hl ⊢
  have hl : lv_has ls 4 [(0, .ref (o 0)), (1, .int (nI r)), (2, .ref a)] := hl
  refine lv_aload_n hx hb dL_ifRead_0 rfl (lv_at hl 2 rfl) ?_
  refine o_const (k := 0) hx hb dL_ifRead_1 (by decide) ?_
  refine lv_aload_n hx hb dL_ifRead_2 rfl (lv_at hl 0 rfl) ?_
  refine lv_iload_n hx hb dL_ifRead_3 rfl (lv_at hl 1 rfl) ?_
  refine o_ri (va_runV (As := [.int (nI r)]) (rest := [.int (nI 0), .ref a]) ⟨hx, hb, hml, hown, hts⟩ (k_X4_ifRead l D cI cR cS cL o x v tl b r (by first | assumption | omega) (by first | assumption | omega) (by first | assumption | omega)) (cwV 1 hts gL_ifRead_X4_ifRead rfl rfl rfl (by decide +kernel) ⟨Nat.le_of_ble_eq_true rfl, Nat.le_of_ble_eq_true rfl⟩) (o_v (o_pR hK hN (o_PT (pre := [ol cL a 1 g]) (ws := (wO o cI cR cS x v tl)) hP)) (va_recv hK hP (ci := 4) (q0 := 1) rfl rfl)) rfl rfl hl.1 rfl (lv_room (Nat.le_of_ble_eq_true rfl)) dL_ifRead_4 ⟨Nat.zero_le _, Nat.zero_le _⟩) (fun r1 e1 => ?_)
  subst e1
  refine lv_i2l (v := (nI ((s_out v r))).toInt64) hx hb dL_ifRead_7 rfl ?_
  refine va_last (x := (nI ((s_out v r))).toInt64) hx hb hK hP hD hS 0 3 rfl rfl (vp_in_nI (by decide) (by decide)) dL_ifRead_8 (fun H locs hP hD hS => ?_)
  have hu : vp_updL g (nI 0).toNatClampNeg ((nI ((s_out v r))).toInt64) 0 = (nI ((s_out v r))).toInt64 := by rw [nI_clamp (show 0 < 2 ^ 31 by decide)]; exact if_pos rfl
  generalize vp_updL g (nI 0).toNatClampNeg ((nI ((s_out v r))).toInt64) = u at hu hP hD
  refine lv_goto (tgt := 15) hx hb dL_ifRead_9 (by decide) ?_
  refine o_const (k := 0) hx hb dL_ifRead_15 (by decide) ?_
  exact vx_ret (W.iret (v := nI 0) hx hb hrt (fun t ht hW => ⟨⟨_, u, rfl, ⟨rfl, hu⟩, by show va_P D vwCl _ t.heap; rw [ht]; exact hP⟩, hS.F ht⟩) hS.2.2 dL_ifRead_16)
set_option maxHeartbeats 4000000 in
set_option maxRecDepth 100000 in
theorem l_ifRead_1 (l : Launch) (D : va_G) (cI cR cS cL : ClassId) (hfl : l.stackTraces = false) (sz : Nat) (o : Nat → Nat) (x : Nat → Nat → Nat) (v : Nat → Nat → Nat) (tl : va_W) (b : Nat) (r : Nat) (a : Nat) (g : Nat → Int64) (h0r : r < 2 ^ 32) (hbad : ¬ r < 4) : vx_Met l yL_ifRead wsL_ifRead ({ frames := 7, cells := 1, slots := 6, locals := 103 }) (va_Pc [.ref (o 0), .int (nI r), .ref a] (o_F D (o_T cI cR cS cL) ([ol cL a 1 g] ++ (wO o cI cR cS x v tl)) sz)) (va_Qi (fun rz (u : Nat → Int64) => rz = nI 1 ∧ u = g) (fun (u : Nat → Int64) t => va_P D vwCl ([ol cL a 1 u] ++ (wO o cI cR cS x v tl)) t.heap) (va_A ([ol cL a 1 g] ++ (wO o cI cR cS x v tl)) sz)) o_x0 1 6 (va_A ([ol cL a 1 g] ++ (wO o cI cR cS x v tl)) sz) := by
  refine vx_ofWH (cc := cL_ifRead) (maxL := 4) (ret := (some .int)) (hh := [(0, 9, 12, 13)]) (by decide) rfl ?_
  intro p e s m args below meth cd s₁ B hml hv
  obtain ⟨rfl, hsz, hP, hK, hD0, hG⟩ := hv
  have hx := B.exec
  have hb := B.bytes
  have hrt := B.returns
  have hts := atoms_spec (ws := wsL_ifRead) B.pre
  have hown : s.vm.findClass RL = some m.cls := findClass_of_methodNamed B.named
  have hlocks := B.notSynchronized
  have htab := vx_table (x := yL_ifRead) B (hts _ List.mem_cons_self)
  subst hsz
  have hD := hD0.self (sz := s.heap.size)
  generalize hAe : va_A ([ol cL a 1 g] ++ (wO o cI cR cS x v tl)) s.heap.size = A at hD hG ⊢
  have hA : ∀ q : Nat, s.heap.size ≤ q → A q := fun q h => by rw [← hAe]; exact Or.inr h
  have hS : va_S A s.heap s.heap [] := va_S.rf
  have hN := hG.1
  have hl := lv_entry ([.ref (o 0), .int (nI r), .ref a]) (n := 4) (Nat.le_of_ble_eq_true rfl)
  rw [lg_entry_eq]
  generalize (lg_sl ([.ref (o 0), .int (nI r), .ref a]) ++ List.replicate (4 - (lg_sl ([.ref (o 0), .int (nI r), .ref a])).length) Slot.unset).toArray = ls at hl ⊢
  have hl : lv_has ls 4 [(0, .ref (o 0)), (1, .int (nI r)), (2, .ref a)] := hl
  refine lv_aload_n hx hb dL_ifRead_0 rfl (lv_at hl 2 rfl) ?_
  refine o_const (k := 0) hx hb dL_ifRead_1 (by decide) ?_
  refine lv_aload_n hx hb dL_ifRead_2 rfl (lv_at hl 0 rfl) ?_
  refine lv_iload_n hx hb dL_ifRead_3 rfl (lv_at hl 1 rfl) ?_
  refine o_cx (E := nmI) (vx_runV (As := [.int (nI r)]) (rest := [.int (nI 0), .ref a]) ⟨hx, hb, hml, hown, hts⟩ (x_X4_ifRead_1 l D cI cR cS cL hfl o x v tl b r (by first | assumption | omega) (by first | assumption | omega)) (cwV 1 hts gL_ifRead_X4_ifRead rfl rfl rfl (by decide +kernel) ⟨Nat.le_of_ble_eq_true rfl, Nat.le_of_ble_eq_true rfl⟩) (o_v (o_pE hK hG (o_PT (pre := [ol cL a 1 g]) (ws := (wO o cI cR cS x v tl)) hP)) (va_recv hK hP (ci := 4) (q0 := 1) rfl rfl)) rfl rfl hl.1 rfl (lv_room (Nat.le_of_ble_eq_true rfl)) dL_ifRead_4 ⟨Nat.le_of_ble_eq_true rfl, Nat.le_of_ble_eq_true rfl⟩) hP hS (fun ce q9 H locs hP hS h1 h2 h3 => ?_)
  refine vx_catch (own := RL) (name := nmI) (E := nmI) hown [] ⟨0, 9, 12, 13⟩ [] htab (fun z hz => nomatch hz) (by decide) (by decide) (hts (.classLink RL 13 "java/lang/IndexOutOfBoundsException") (List.mem_of_getElem? (i := 1) (by decide +kernel))) (va_Nw.use (A := _) rfl hG.2.1.1.1) h1 h2 h3 ?_
  refine lv_astore_n (lv' := [(3, .ref q9), (0, .ref (o 0)), (1, .int (nI r)), (2, .ref a)]) hx hb dL_ifRead_12 rfl hl (by decide) rfl (fun ls hl => ?_)
  refine o_const (k := 1) hx hb dL_ifRead_13 (by decide) ?_
  exact vx_ret (W.iret (v := nI 1) hx hb hrt (fun t ht hW => ⟨⟨_, g, rfl, ⟨rfl, rfl⟩, by show va_P D vwCl _ t.heap; rw [ht]; exact hP⟩, hS.F ht⟩) hS.2.2 dL_ifRead_14)
set_option maxHeartbeats 4000000 in
set_option maxRecDepth 100000 in
theorem l_wouldBeHalf_0 (l : Launch) (D : va_G) (cI cR cS cL : ClassId) (sz : Nat) (o : Nat → Nat) (x : Nat → Nat → Nat) (v : Nat → Nat → Nat) (tl : va_W) (b : Nat) (r : Nat) (a : Nat) (g : Nat → Int64) (hSI : s_I b v) (hb : b < 2 ^ 28) (hr : r < 4) : vx_Met l yL_wouldBeHalf wsL_wouldBeHalf ({ frames := 4, cells := 0, slots := 0, locals := 86 }) (va_Pc [.ref (o 0), .int (nI r), .ref a] (o_F D (o_T cI cR cS cL) ([ol cL a 1 g] ++ (wO o cI cR cS x v tl)) sz)) (va_Qi (fun rz (u : Nat → Int64) => rz = nI 0 ∧ u 0 = (nI ((c_half v r))).toInt64) (fun (u : Nat → Int64) t => va_P D vwCl ([ol cL a 1 u] ++ (wO o cI cR cS (va_up x 2 (c_wtf v r (x 2))) v tl)) t.heap) (va_A ([ol cL a 1 g] ++ (wO o cI cR cS x v tl)) sz)) o_x0 0 0 (va_A ([ol cL a 1 g] ++ (wO o cI cR cS x v tl)) sz) := by
  refine vx_ofWH (cc := cL_wouldBeHalf) (maxL := 4) (ret := (some .int)) (hh := [(0, 9, 12, 13)]) (by decide) rfl ?_
  intro p e s m args below meth cd s₁ B hml hv
  obtain ⟨rfl, hsz, hP, hK, hD0, hG⟩ := hv
  have hx := B.exec
  have hb := B.bytes
  have hrt := B.returns
  have hts := atoms_spec (ws := wsL_wouldBeHalf) B.pre
  have hown : s.vm.findClass RL = some m.cls := findClass_of_methodNamed B.named
  have hlocks := B.notSynchronized
  have htab := vx_table (x := yL_wouldBeHalf) B (hts _ List.mem_cons_self)
  subst hsz
  have hD := hD0.self (sz := s.heap.size)
  generalize hAe : va_A ([ol cL a 1 g] ++ (wO o cI cR cS x v tl)) s.heap.size = A at hD hG ⊢
  have hA : ∀ q : Nat, s.heap.size ≤ q → A q := fun q h => by rw [← hAe]; exact Or.inr h
  have hS : va_S A s.heap s.heap [] := va_S.rf
  have hN := hG.1
  have hl := lv_entry ([.ref (o 0), .int (nI r), .ref a]) (n := 4) (Nat.le_of_ble_eq_true rfl)
  rw [lg_entry_eq]
  generalize (lg_sl ([.ref (o 0), .int (nI r), .ref a]) ++ List.replicate (4 - (lg_sl ([.ref (o 0), .int (nI r), .ref a])).length) Slot.unset).toArray = ls at hl ⊢
  have hl : lv_has ls 4 [(0, .ref (o 0)), (1, .int (nI r)), (2, .ref a)] := hl
  refine lv_aload_n hx hb dL_wouldBeHalf_0 rfl (lv_at hl 2 rfl) ?_
  refine o_const (k := 0) hx hb dL_wouldBeHalf_1 (by decide) ?_
  refine lv_aload_n hx hb dL_wouldBeHalf_2 rfl (lv_at hl 0 rfl) ?_
  refine lv_iload_n hx hb dL_wouldBeHalf_3 rfl (lv_at hl 1 rfl) ?_
  refine o_wiT [ol cL a 1 g] (va_runV (As := [.int (nI r)]) (rest := [.int (nI 0), .ref a]) ⟨hx, hb, hml, hown, hts⟩ (k_X4_wouldBeHalf l D cI cR cS cL s.heap.size o x v tl b r (by first | assumption | omega) (by first | assumption | omega) (by first | assumption | omega)) (cwV 1 hts gL_wouldBeHalf_X4_wouldBeHalf rfl rfl rfl (by decide +kernel) ⟨Nat.le_of_ble_eq_true rfl, Nat.le_of_ble_eq_true rfl⟩) (o_v (o_pB hK hN (o_PT (pre := [ol cL a 1 g]) (ws := (wO o cI cR cS x v tl)) hP) (o_DT (pre := [ol cL a 1 g]) (ws := (wO o cI cR cS x v tl)) hD)) (va_recv hK hP (ci := 4) (q0 := 1) rfl rfl)) rfl rfl hl.1 rfl (lv_room (Nat.le_of_ble_eq_true rfl)) dL_wouldBeHalf_4 ⟨Nat.zero_le _, Nat.zero_le _⟩) hP hD hS hA (fun _ => rfl) (fun r1 _ H locs e1 hP hD hS => ?_)
  have e1 : r1 = nI ((c_half v r)) := e1
  subst e1
  refine lv_i2l (v := (nI ((c_half v r))).toInt64) hx hb dL_wouldBeHalf_7 rfl ?_
  refine va_last (x := (nI ((c_half v r))).toInt64) hx hb hK hP hD hS 0 3 rfl rfl (vp_in_nI (by decide) (by decide)) dL_wouldBeHalf_8 (fun H locs hP hD hS => ?_)
  have hu : vp_updL g (nI 0).toNatClampNeg ((nI ((c_half v r))).toInt64) 0 = (nI ((c_half v r))).toInt64 := by rw [nI_clamp (show 0 < 2 ^ 31 by decide)]; exact if_pos rfl
  generalize vp_updL g (nI 0).toNatClampNeg ((nI ((c_half v r))).toInt64) = u at hu hP hD
  refine lv_goto (tgt := 15) hx hb dL_wouldBeHalf_9 (by decide) ?_
  refine o_const (k := 0) hx hb dL_wouldBeHalf_15 (by decide) ?_
  exact vx_ret (W.iret (v := nI 0) hx hb hrt (fun t ht hW => ⟨⟨_, u, rfl, ⟨rfl, hu⟩, by show va_P D vwCl _ t.heap; rw [ht]; exact hP⟩, hS.F ht⟩) hS.2.2 dL_wouldBeHalf_16)
set_option maxHeartbeats 4000000 in
set_option maxRecDepth 100000 in
theorem l_wouldBeHalf_1 (l : Launch) (D : va_G) (cI cR cS cL : ClassId) (hfl : l.stackTraces = false) (sz : Nat) (o : Nat → Nat) (x : Nat → Nat → Nat) (v : Nat → Nat → Nat) (tl : va_W) (b : Nat) (r : Nat) (a : Nat) (g : Nat → Int64) (h0r : r < 2 ^ 32) (hbad : ¬ r < 4) : vx_Met l yL_wouldBeHalf wsL_wouldBeHalf ({ frames := 7, cells := 1, slots := 6, locals := 103 }) (va_Pc [.ref (o 0), .int (nI r), .ref a] (o_F D (o_T cI cR cS cL) ([ol cL a 1 g] ++ (wO o cI cR cS x v tl)) sz)) (va_Qi (fun rz (u : Nat → Int64) => rz = nI 1 ∧ u = g) (fun (u : Nat → Int64) t => va_P D vwCl ([ol cL a 1 u] ++ (wO o cI cR cS x v tl)) t.heap) (va_A ([ol cL a 1 g] ++ (wO o cI cR cS x v tl)) sz)) o_x0 1 6 (va_A ([ol cL a 1 g] ++ (wO o cI cR cS x v tl)) sz) := by
  refine vx_ofWH (cc := cL_wouldBeHalf) (maxL := 4) (ret := (some .int)) (hh := [(0, 9, 12, 13)]) (by decide) rfl ?_
  intro p e s m args below meth cd s₁ B hml hv
  obtain ⟨rfl, hsz, hP, hK, hD0, hG⟩ := hv
  have hx := B.exec
  have hb := B.bytes
  have hrt := B.returns
  have hts := atoms_spec (ws := wsL_wouldBeHalf) B.pre
  have hown : s.vm.findClass RL = some m.cls := findClass_of_methodNamed B.named
  have hlocks := B.notSynchronized
  have htab := vx_table (x := yL_wouldBeHalf) B (hts _ List.mem_cons_self)
  subst hsz
  have hD := hD0.self (sz := s.heap.size)
  generalize hAe : va_A ([ol cL a 1 g] ++ (wO o cI cR cS x v tl)) s.heap.size = A at hD hG ⊢
  have hA : ∀ q : Nat, s.heap.size ≤ q → A q := fun q h => by rw [← hAe]; exact Or.inr h
  have hS : va_S A s.heap s.heap [] := va_S.rf
  have hN := hG.1
  have hl := lv_entry ([.ref (o 0), .int (nI r), .ref a]) (n := 4) (Nat.le_of_ble_eq_true rfl)
  rw [lg_entry_eq]
  generalize (lg_sl ([.ref (o 0), .int (nI r), .ref a]) ++ List.replicate (4 - (lg_sl ([.ref (o 0), .int (nI r), .ref a])).length) Slot.unset).toArray = ls at hl ⊢
  have hl : lv_has ls 4 [(0, .ref (o 0)), (1, .int (nI r)), (2, .ref a)] := hl
  refine lv_aload_n hx hb dL_wouldBeHalf_0 rfl (lv_at hl 2 rfl) ?_
  refine o_const (k := 0) hx hb dL_wouldBeHalf_1 (by decide) ?_
  refine lv_aload_n hx hb dL_wouldBeHalf_2 rfl (lv_at hl 0 rfl) ?_
  refine lv_iload_n hx hb dL_wouldBeHalf_3 rfl (lv_at hl 1 rfl) ?_
  refine o_cx (E := nmI) (vx_runV (As := [.int (nI r)]) (rest := [.int (nI 0), .ref a]) ⟨hx, hb, hml, hown, hts⟩ (x_X4_wouldBeHalf_1 l D cI cR cS cL hfl o x v tl b r (by first | assumption | omega) (by first | assumption | omega)) (cwV 1 hts gL_wouldBeHalf_X4_wouldBeHalf rfl rfl rfl (by decide +kernel) ⟨Nat.le_of_ble_eq_true rfl, Nat.le_of_ble_eq_true rfl⟩) (o_v (o_pE hK hG (o_PT (pre := [ol cL a 1 g]) (ws := (wO o cI cR cS x v tl)) hP)) (va_recv hK hP (ci := 4) (q0 := 1) rfl rfl)) rfl rfl hl.1 rfl (lv_room (Nat.le_of_ble_eq_true rfl)) dL_wouldBeHalf_4 ⟨Nat.le_of_ble_eq_true rfl, Nat.le_of_ble_eq_true rfl⟩) hP hS (fun ce q9 H locs hP hS h1 h2 h3 => ?_)
  refine vx_catch (own := RL) (name := nmI) (E := nmI) hown [] ⟨0, 9, 12, 13⟩ [] htab (fun z hz => nomatch hz) (by decide) (by decide) (hts (.classLink RL 13 "java/lang/IndexOutOfBoundsException") (List.mem_of_getElem? (i := 1) (by decide +kernel))) (va_Nw.use (A := _) rfl hG.2.1.1.1) h1 h2 h3 ?_
  refine lv_astore_n (lv' := [(3, .ref q9), (0, .ref (o 0)), (1, .int (nI r)), (2, .ref a)]) hx hb dL_wouldBeHalf_12 rfl hl (by decide) rfl (fun ls hl => ?_)
  refine o_const (k := 1) hx hb dL_wouldBeHalf_13 (by decide) ?_
  exact vx_ret (W.iret (v := nI 1) hx hb hrt (fun t ht hW => ⟨⟨_, g, rfl, ⟨rfl, rfl⟩, by show va_P D vwCl _ t.heap; rw [ht]; exact hP⟩, hS.F ht⟩) hS.2.2 dL_wouldBeHalf_14)
