set_option maxHeartbeats 4000000 in
set_option maxRecDepth 100000 in
theorem l_low (l : Launch) (a : Int32) (n : Nat) (h0 : 0 < n) (hn : n < 2 ^ 31) : Met l yL_low wsL_low ({ frames := 0, cells := 0, slots := 0, locals := 0 }) (va_Pc [.int a, .int (nI n)] (fun _ => True)) (vp_Si (fun rz => rz = nI (ya_low a n))) 0 0 (fun _ => False) := by
  refine Met.ofW (cc := cL_low) (maxL := 2) (ret := (some .int)) (by decide) rfl ?_
  intro p e s m args below meth cd s₁ B hml hv
  obtain ⟨rfl, _⟩ := hv
  have hx := B.exec
  have hb := B.bytes
  have hrt := B.returns
  have hts := atoms_spec (ws := wsL_low) B.pre
  have hown : s.vm.findClass RL = some m.cls := findClass_of_methodNamed B.named
  have hlocks := B.notSynchronized
  have hl := lv_entry ([.int a, .int (nI n)]) (n := 2) (Nat.le_of_ble_eq_true rfl)
  rw [lg_entry_eq]
  generalize (lg_sl ([.int a, .int (nI n)]) ++ List.replicate (2 - (lg_sl ([.int a, .int (nI n)])).length) Slot.unset).toArray = ls at hl ⊢
  have hl : lv_has ls 2 [(0, .int a), (1, .int (nI n))] := hl
  refine lv_iload_n hx hb dL_low_0 rfl (lv_at hl 0 rfl) ?_
  refine lv_ldc (v := (2147483647)) hx hb hown (hts (.constant RL 7 (2147483647)) (List.mem_of_getElem? (i := 1) (by decide +kernel))) dL_low_1 ?_
  refine lv_iand hx hb dL_low_3 (o_ti (pk_and a 31 (by decide)) ?_)
  refine lv_iload_n hx hb dL_low_4 rfl (lv_at hl 1 rfl) ?_
  refine o_irem (a := a.toBitVec.toNat % 2 ^ 31) (b := n) (k := ya_low a n) hx hb dL_low_5 (Nat.mod_lt _ (by decide)) h0 hn rfl ?_
  exact W.iret (v := nI (ya_low a n)) hx hb hrt (fun t ht hW => ⟨_, rfl, rfl, ht⟩) (fun _ h => nomatch h) dL_low_6
set_option maxHeartbeats 4000000 in
set_option maxRecDepth 100000 in
theorem l_cell (l : Launch) (sb L k : Nat) (xs : Nat → Int32) (hk : k < L) (hL : L < 2 ^ 31) : Met l yL_cell wsL_cell ({ frames := 0, cells := 0, slots := 0, locals := 0 }) (va_Pc [.ref sb, .int (nI k)] (ya_R sb L xs)) (vp_Si (fun rz => rz = xs k)) 0 0 (fun _ => False) := by
  refine Met.ofW (cc := cL_cell) (maxL := 2) (ret := (some .int)) (by decide) rfl ?_
  intro p e s m args below meth cd s₁ B hml hv
  obtain ⟨rfl, hX, hs⟩ := hv
  have hx := B.exec
  have hb := B.bytes
  have hrt := B.returns
  have hts := atoms_spec (ws := wsL_cell) B.pre
  have hown : s.vm.findClass RL = some m.cls := findClass_of_methodNamed B.named
  have hlocks := B.notSynchronized
  have hS : va_S (fun _ => False) s.heap s.heap [] := va_S.rf
  have hl := lv_entry ([.ref sb, .int (nI k)]) (n := 2) (Nat.le_of_ble_eq_true rfl)
  rw [lg_entry_eq]
  generalize (lg_sl ([.ref sb, .int (nI k)]) ++ List.replicate (2 - (lg_sl ([.ref sb, .int (nI k)])).length) Slot.unset).toArray = ls at hl ⊢
  have hl : lv_has ls 2 [(0, .ref sb), (1, .int (nI k))] := hl
  refine lv_iload_n hx hb dL_cell_0 rfl (lv_at hl 1 rfl) ?_
  refine lv_aload_n hx hb dL_cell_1 rfl (lv_at hl 0 rfl) ?_
  refine va_slen hx hb hX hs (fun h => h) hS dL_cell_2 ?_
  refine o_icmp_ge (tgt := 12) hx hb dL_cell_3 (by decide) (by omega) (by omega) (fun z => absurd z (by omega)) (fun _ => ?_)
  refine lv_aload_n hx hb dL_cell_6 rfl (lv_at hl 0 rfl) ?_
  refine lv_iload_n hx hb dL_cell_7 rfl (lv_at hl 1 rfl) ?_
  refine va_sld hx hb hX hs (fun h => h) hS (vp_in_nI hk hL) dL_cell_8 ?_
  refine o_ti (congrArg xs (nI_clamp (Nat.lt_trans hk hL))) ?_
  refine lv_goto (tgt := 20) hx hb dL_cell_9 (by decide) ?_
  exact W.iret (v := xs k) hx hb hrt (fun t ht hW => ⟨_, rfl, rfl, ht⟩) (fun _ h => nomatch h) dL_cell_20
set_option maxHeartbeats 4000000 in
set_option maxRecDepth 100000 in
theorem l_come (l : Launch) (D : va_G) (cI cR cS cL : ClassId) (hfl : l.stackTraces = false) (sz : Nat) (o : Nat → Nat) (x v : Nat → Nat → Nat) (V : Nat → Nat → Nat → Nat) (b : Nat) (q9 r9 : Nat) (c : Nat) (h : qa_G b x v V) (hb : b < 2 ^ 27) (hc : c < 3) (hq : q9 < 17) : vx_Met l yL_come wsL_come ({ frames := 7, cells := 1, slots := 6, locals := 103 }) (va_Pc [.ref (o 0), .int (nI c)] (o_F D (o_T cI cR cS cL) (wO o cI cR cS x v (wV o cI cR V)) sz)) (va_Qi (fun rz (u : ya_S) => ∃ t, rz = nI t ∧ qa_A b q9 r9 t x v u.1 u.2.1 u.2.2) (fun (u : ya_S) t => va_P D vwCl (wO o cI cR cS u.1 u.2.1 (wV o cI cR u.2.2)) t.heap) (va_A (wO o cI cR cS x v (wV o cI cR V)) sz)) o_x0 1 6 (va_A (wO o cI cR cS x v (wV o cI cR V)) sz) := by
  have hSI := h.2.2.1.1
  have hb28 : b < 2 ^ 28 := by omega
  have h3 := h.1
  have h4 := h.2.1
  have hn0 : v 0 0 < 2 ^ 29 := by have := hSI.1.1; omega
  refine vx_ofWH (cc := cL_come) (maxL := 3) (ret := (some .int)) (hh := [(0, 5, 6, 15)]) (by decide) rfl ?_
  intro p e s m args below meth cd s₁ B hml hv
  obtain ⟨rfl, hsz, hP, hK, hD0, hG⟩ := hv
  have hx := B.exec
  have hb := B.bytes
  have hrt := B.returns
  have hts := atoms_spec (ws := wsL_come) B.pre
  have hown : s.vm.findClass RL = some m.cls := findClass_of_methodNamed B.named
  have hlocks := B.notSynchronized
  have htab := vx_table (x := yL_come) B (hts _ List.mem_cons_self)
  subst hsz
  have hD := hD0.self (sz := s.heap.size)
  generalize hAe : va_A (wO o cI cR cS x v (wV o cI cR V)) s.heap.size = A at hD hG ⊢
  have hA : ∀ q : Nat, s.heap.size ≤ q → A q := fun q h => by rw [← hAe]; exact Or.inr h
  have hS : va_S A s.heap s.heap [] := va_S.rf
  have hN := hG.1
  have hl := lv_entry ([.ref (o 0), .int (nI c)]) (n := 3) (Nat.le_of_ble_eq_true rfl)
  rw [lg_entry_eq]
  generalize (lg_sl ([.ref (o 0), .int (nI c)]) ++ List.replicate (3 - (lg_sl ([.ref (o 0), .int (nI c)])).length) Slot.unset).toArray = ls at hl ⊢
  have hl : lv_has ls 3 [(0, .ref (o 0)), (1, .int (nI c))] := hl
  refine lv_aload_n hx hb dL_come_0 rfl (lv_at hl 0 rfl) ?_
  refine lv_iload_n hx hb dL_come_1 rfl (lv_at hl 1 rfl) ?_
  by_cases ha : v 3 c = 4294967295
  · skip
    refine o_wiA (va_runV (As := [.int (nI c)]) (rest := []) ⟨hx, hb, hml, hown, hts⟩ (k_X4_come l D cI cR cS cL s.heap.size o x v V b c hSI hb28 h3 h4 (by first | assumption | omega) (by first | assumption | omega)) (cwV 1 hts gL_come_X4_come rfl rfl rfl (by decide +kernel) ⟨Nat.le_of_ble_eq_true rfl, Nat.le_of_ble_eq_true rfl⟩) (o_v (o_pB hK hN hP hD) (va_recv hK hP (ci := 4) (q0 := 0) rfl rfl)) rfl rfl hl.1 rfl (lv_room (Nat.le_of_ble_eq_true rfl)) dL_come_2 ⟨Nat.zero_le _, Nat.zero_le _⟩) hD hS hA (fun _ => rfl) (fun r1 _ H locs e1 hP hD hS => ?_)
    have e1 : r1 = nI (b_inl (v 3)) := e1
    subst e1
    have G9 : qa_A b q9 r9 (b_inl (v 3)) x v (va_up x 0 (c_sv (x 0))) (b_enter v c) (c_put V ((x 0 3 + x 0 4) % 6) v) := qa_A0 h (qa_come h.2.2.1 hc ha) hq (by have := b_inl_le (v 3); omega) (by show v 0 0 ≤ (if b_inl (v 3) = 0 then v 0 0 + 1 else v 0 0); split <;> omega)
    refine W.widen (k := 1) (n := 6) (by omega) (by omega) ?_
    exact vx_ret (W.iret (v := nI (b_inl (v 3))) hx hb hrt (fun t ht hW => ⟨⟨_, ((va_up x 0 (c_sv (x 0))), (b_enter v c), (c_put V ((x 0 3 + x 0 4) % 6) v)), rfl, ⟨_, rfl, G9⟩, by show va_P D vwCl _ t.heap; rw [ht]; exact hP⟩, hS.F ht⟩) hS.2.2 dL_come_5)
  · skip
    refine o_cx (E := nmS) (vx_runV (As := [.int (nI c)]) (rest := []) ⟨hx, hb, hml, hown, hts⟩ (x_X4_come_2 l D cI cR cS cL hfl o x v (wV o cI cR V) b c hSI hb28 (by first | assumption | omega) ha) (cwV 1 hts gL_come_X4_come rfl rfl rfl (by decide +kernel) ⟨Nat.le_of_ble_eq_true rfl, Nat.le_of_ble_eq_true rfl⟩) (o_v (o_pE hK hG hP) (va_recv hK hP (ci := 4) (q0 := 0) rfl rfl)) rfl rfl hl.1 rfl (lv_room (Nat.le_of_ble_eq_true rfl)) dL_come_2 ⟨Nat.le_of_ble_eq_true rfl, Nat.le_of_ble_eq_true rfl⟩) hP hS (fun ce q9 H locs hP hS h1 h2 h3 => ?_)
    refine vx_catch (own := RL) (name := nmS) (E := nmS) hown [] ⟨0, 5, 6, 15⟩ [] htab (fun z hz => nomatch hz) (by decide) (by decide) (hts (.classLink RL 15 "java/lang/IllegalStateException") (List.mem_of_getElem? (i := 1) (by decide +kernel))) (va_Nw.use (A := _) rfl hG.2.1.1.2.2) h1 h2 h3 ?_
    refine lv_astore_n (lv' := [(2, .ref q9), (0, .ref (o 0)), (1, .int (nI c))]) hx hb dL_come_6 rfl hl (by decide) rfl (fun ls hl => ?_)
    refine o_bipush (k := 4294967293) hx hb dL_come_7 (by decide) ?_
    exact vx_ret (W.iret (v := nI 4294967293) hx hb hrt (fun t ht hW => ⟨⟨_, (x, v, V), rfl, ⟨4294967293, rfl, qa_A3 h⟩, by show va_P D vwCl _ t.heap; rw [ht]; exact hP⟩, hS.F ht⟩) hS.2.2 dL_come_9)
set_option maxHeartbeats 4000000 in
set_option maxRecDepth 100000 in
theorem l_chalk (l : Launch) (D : va_G) (cI cR cS cL : ClassId) (hfl : l.stackTraces = false) (sz : Nat) (o : Nat → Nat) (x v : Nat → Nat → Nat) (V : Nat → Nat → Nat → Nat) (b : Nat) (q9 r9 : Nat) (f y : Nat) (h : qa_G b x v V) (hb : b < 2 ^ 27) (hf : f < 5) (hy : y < 100) (hq : q9 < 17) : vx_Met l yL_chalk wsL_chalk ({ frames := 7, cells := 1, slots := 6, locals := 104 }) (va_Pc [.ref (o 0), .int (nI f), .int (nI y)] (o_F D (o_T cI cR cS cL) (wO o cI cR cS x v (wV o cI cR V)) sz)) (va_Qi (fun rz (u : ya_S) => ∃ t, rz = nI t ∧ qa_A b q9 r9 t x v u.1 u.2.1 u.2.2) (fun (u : ya_S) t => va_P D vwCl (wO o cI cR cS u.1 u.2.1 (wV o cI cR u.2.2)) t.heap) (va_A (wO o cI cR cS x v (wV o cI cR V)) sz)) o_x0 1 6 (va_A (wO o cI cR cS x v (wV o cI cR V)) sz) := by
  have hSI := h.2.2.1.1
  have hb28 : b < 2 ^ 28 := by omega
  have h3 := h.1
  have h4 := h.2.1
  have hn0 : v 0 0 < 2 ^ 29 := by have := hSI.1.1; omega
  refine vx_ofWH (cc := cL_chalk) (maxL := 4) (ret := (some .int)) (hh := [(0, 6, 7, 15)]) (by decide) rfl ?_
  intro p e s m args below meth cd s₁ B hml hv
  obtain ⟨rfl, hsz, hP, hK, hD0, hG⟩ := hv
  have hx := B.exec
  have hb := B.bytes
  have hrt := B.returns
  have hts := atoms_spec (ws := wsL_chalk) B.pre
  have hown : s.vm.findClass RL = some m.cls := findClass_of_methodNamed B.named
  have hlocks := B.notSynchronized
  have htab := vx_table (x := yL_chalk) B (hts _ List.mem_cons_self)
  subst hsz
  have hD := hD0.self (sz := s.heap.size)
  generalize hAe : va_A (wO o cI cR cS x v (wV o cI cR V)) s.heap.size = A at hD hG ⊢
  have hA : ∀ q : Nat, s.heap.size ≤ q → A q := fun q h => by rw [← hAe]; exact Or.inr h
  have hS : va_S A s.heap s.heap [] := va_S.rf
  have hN := hG.1
  have hl := lv_entry ([.ref (o 0), .int (nI f), .int (nI y)]) (n := 4) (Nat.le_of_ble_eq_true rfl)
  rw [lg_entry_eq]
  generalize (lg_sl ([.ref (o 0), .int (nI f), .int (nI y)]) ++ List.replicate (4 - (lg_sl ([.ref (o 0), .int (nI f), .int (nI y)])).length) Slot.unset).toArray = ls at hl ⊢
  have hl : lv_has ls 4 [(0, .ref (o 0)), (1, .int (nI f)), (2, .int (nI y))] := hl
  refine lv_aload_n hx hb dL_chalk_0 rfl (lv_at hl 0 rfl) ?_
  refine lv_iload_n hx hb dL_chalk_1 rfl (lv_at hl 1 rfl) ?_
  refine lv_iload_n hx hb dL_chalk_2 rfl (lv_at hl 2 rfl) ?_
  by_cases ha : v 0 0 % 2 = 1
  · skip
    refine o_wiA (va_runV (As := [.int (nI f), .int (nI y)]) (rest := []) ⟨hx, hb, hml, hown, hts⟩ (k_X4_chalk l D cI cR cS cL s.heap.size o x v V b f y hSI hb28 h3 h4 (by first | assumption | omega) (by first | assumption | omega) (by first | assumption | omega)) (cwV 2 hts gL_chalk_X4_chalk rfl rfl rfl (by decide +kernel) ⟨Nat.le_of_ble_eq_true rfl, Nat.le_of_ble_eq_true rfl⟩) (o_v (o_pB hK hN hP hD) (va_recv hK hP (ci := 4) (q0 := 0) rfl rfl)) rfl rfl hl.1 rfl (lv_room (Nat.le_of_ble_eq_true rfl)) dL_chalk_3 ⟨Nat.zero_le _, Nat.zero_le _⟩) hD hS hA (fun _ => rfl) (fun r1 _ H locs e1 hP hD hS => ?_)
    have e1 : r1 = nI (v 1 f) := e1
    subst e1
    have G9 : qa_A b q9 r9 (v 1 f) x v (va_up x 0 (c_sv (x 0))) (b_write v f y) (c_put V ((x 0 3 + x 0 4) % 6) v) := qa_A0 h (qa_chalk h.2.2.1 hy ha) hq (by have := h.2.2.1.2.2.1.1 f hf; omega) (Nat.le_refl _)
    refine W.widen (k := 1) (n := 6) (by omega) (by omega) ?_
    exact vx_ret (W.iret (v := nI (v 1 f)) hx hb hrt (fun t ht hW => ⟨⟨_, ((va_up x 0 (c_sv (x 0))), (b_write v f y), (c_put V ((x 0 3 + x 0 4) % 6) v)), rfl, ⟨_, rfl, G9⟩, by show va_P D vwCl _ t.heap; rw [ht]; exact hP⟩, hS.F ht⟩) hS.2.2 dL_chalk_6)
  · skip
    refine o_cx (E := nmS) (vx_runV (As := [.int (nI f), .int (nI y)]) (rest := []) ⟨hx, hb, hml, hown, hts⟩ (x_X4_chalk_3 l D cI cR cS cL hfl o x v (wV o cI cR V) b f y hSI hb28 (by first | assumption | omega) (by first | assumption | omega) ha) (cwV 2 hts gL_chalk_X4_chalk rfl rfl rfl (by decide +kernel) ⟨Nat.le_of_ble_eq_true rfl, Nat.le_of_ble_eq_true rfl⟩) (o_v (o_pE hK hG hP) (va_recv hK hP (ci := 4) (q0 := 0) rfl rfl)) rfl rfl hl.1 rfl (lv_room (Nat.le_of_ble_eq_true rfl)) dL_chalk_3 ⟨Nat.le_of_ble_eq_true rfl, Nat.le_of_ble_eq_true rfl⟩) hP hS (fun ce q9 H locs hP hS h1 h2 h3 => ?_)
    refine vx_catch (own := RL) (name := nmS) (E := nmS) hown [] ⟨0, 6, 7, 15⟩ [] htab (fun z hz => nomatch hz) (by decide) (by decide) (hts (.classLink RL 15 "java/lang/IllegalStateException") (List.mem_of_getElem? (i := 1) (by decide +kernel))) (va_Nw.use (A := _) rfl hG.2.1.1.2.2) h1 h2 h3 ?_
    refine lv_astore_n (lv' := [(3, .ref q9), (0, .ref (o 0)), (1, .int (nI f)), (2, .int (nI y))]) hx hb dL_chalk_7 rfl hl (by decide) rfl (fun ls hl => ?_)
    refine o_bipush (k := 4294967293) hx hb dL_chalk_8 (by decide) ?_
    exact vx_ret (W.iret (v := nI 4294967293) hx hb hrt (fun t ht hW => ⟨⟨_, (x, v, V), rfl, ⟨4294967293, rfl, qa_A3 h⟩, by show va_P D vwCl _ t.heap; rw [ht]; exact hP⟩, hS.F ht⟩) hS.2.2 dL_chalk_10)
set_option maxHeartbeats 4000000 in
set_option maxRecDepth 100000 in
theorem l_done (l : Launch) (D : va_G) (cI cR cS cL : ClassId) (hfl : l.stackTraces = false) (sz : Nat) (o : Nat → Nat) (x v : Nat → Nat → Nat) (V : Nat → Nat → Nat → Nat) (b : Nat) (q9 r9 : Nat) (c : Nat) (h : qa_G b x v V) (hb : b < 2 ^ 27) (hc : c < 3) (hq : q9 < 17) : vx_Met l yL_done wsL_done ({ frames := 7, cells := 1, slots := 6, locals := 105 }) (va_Pc [.ref (o 0), .int (nI c)] (o_F D (o_T cI cR cS cL) (wO o cI cR cS x v (wV o cI cR V)) sz)) (va_Qi (fun rz (u : ya_S) => ∃ t, rz = nI t ∧ qa_A b q9 r9 t x v u.1 u.2.1 u.2.2) (fun (u : ya_S) t => va_P D vwCl (wO o cI cR cS u.1 u.2.1 (wV o cI cR u.2.2)) t.heap) (va_A (wO o cI cR cS x v (wV o cI cR V)) sz)) o_x0 1 6 (va_A (wO o cI cR cS x v (wV o cI cR V)) sz) := by
  have hSI := h.2.2.1.1
  have hb28 : b < 2 ^ 28 := by omega
  have h3 := h.1
  have h4 := h.2.1
  have hn0 : v 0 0 < 2 ^ 29 := by have := hSI.1.1; omega
  refine vx_ofWH (cc := cL_done) (maxL := 3) (ret := (some .int)) (hh := [(0, 5, 6, 15)]) (by decide) rfl ?_
  intro p e s m args below meth cd s₁ B hml hv
  obtain ⟨rfl, hsz, hP, hK, hD0, hG⟩ := hv
  have hx := B.exec
  have hb := B.bytes
  have hrt := B.returns
  have hts := atoms_spec (ws := wsL_done) B.pre
  have hown : s.vm.findClass RL = some m.cls := findClass_of_methodNamed B.named
  have hlocks := B.notSynchronized
  have htab := vx_table (x := yL_done) B (hts _ List.mem_cons_self)
  subst hsz
  have hD := hD0.self (sz := s.heap.size)
  generalize hAe : va_A (wO o cI cR cS x v (wV o cI cR V)) s.heap.size = A at hD hG ⊢
  have hA : ∀ q : Nat, s.heap.size ≤ q → A q := fun q h => by rw [← hAe]; exact Or.inr h
  have hS : va_S A s.heap s.heap [] := va_S.rf
  have hN := hG.1
  have hl := lv_entry ([.ref (o 0), .int (nI c)]) (n := 3) (Nat.le_of_ble_eq_true rfl)
  rw [lg_entry_eq]
  generalize (lg_sl ([.ref (o 0), .int (nI c)]) ++ List.replicate (3 - (lg_sl ([.ref (o 0), .int (nI c)])).length) Slot.unset).toArray = ls at hl ⊢
  have hl : lv_has ls 3 [(0, .ref (o 0)), (1, .int (nI c))] := hl
  refine lv_aload_n hx hb dL_done_0 rfl (lv_at hl 0 rfl) ?_
  refine lv_iload_n hx hb dL_done_1 rfl (lv_at hl 1 rfl) ?_
  by_cases ha : v 3 c = 0
  · skip
    refine o_wiA (va_runV (As := [.int (nI c)]) (rest := []) ⟨hx, hb, hml, hown, hts⟩ (k_X4_done l D cI cR cS cL s.heap.size o x v V b c hSI hb28 h3 h4 (by first | assumption | omega) (by first | assumption | omega)) (cwV 1 hts gL_done_X4_done rfl rfl rfl (by decide +kernel) ⟨Nat.le_of_ble_eq_true rfl, Nat.le_of_ble_eq_true rfl⟩) (o_v (o_pB hK hN hP hD) (va_recv hK hP (ci := 4) (q0 := 0) rfl rfl)) rfl rfl hl.1 rfl (lv_room (Nat.le_of_ble_eq_true rfl)) dL_done_2 ⟨Nat.zero_le _, Nat.zero_le _⟩) hD hS hA (fun _ => rfl) (fun r1 _ H locs e1 hP hD hS => ?_)
    have e1 : r1 = nI ((v 0 0 + 1) / 2) := e1
    subst e1
    have G9 : qa_A b q9 r9 ((v 0 0 + 1) / 2) x v (va_up x 0 (c_sv (x 0))) (b_leave v c) (c_put V ((x 0 3 + x 0 4) % 6) v) := qa_A0 h (qa_done h.2.2.1 hc ha) hq (by omega) (by show v 0 0 ≤ (if 0 < b_inl (b_stpf (v 3)) then v 0 0 + 2 else v 0 0 + 1); split <;> omega)
    refine W.widen (k := 1) (n := 6) (by omega) (by omega) ?_
    exact vx_ret (W.iret (v := nI ((v 0 0 + 1) / 2)) hx hb hrt (fun t ht hW => ⟨⟨_, ((va_up x 0 (c_sv (x 0))), (b_leave v c), (c_put V ((x 0 3 + x 0 4) % 6) v)), rfl, ⟨_, rfl, G9⟩, by show va_P D vwCl _ t.heap; rw [ht]; exact hP⟩, hS.F ht⟩) hS.2.2 dL_done_5)
  · skip
    refine o_cx (E := nmS) (vx_runV (As := [.int (nI c)]) (rest := []) ⟨hx, hb, hml, hown, hts⟩ (x_X4_done_2 l D cI cR cS cL hfl o x v (wV o cI cR V) b c hSI hb28 (by first | assumption | omega) ha) (cwV 1 hts gL_done_X4_done rfl rfl rfl (by decide +kernel) ⟨Nat.le_of_ble_eq_true rfl, Nat.le_of_ble_eq_true rfl⟩) (o_v (o_pE hK hG hP) (va_recv hK hP (ci := 4) (q0 := 0) rfl rfl)) rfl rfl hl.1 rfl (lv_room (Nat.le_of_ble_eq_true rfl)) dL_done_2 ⟨Nat.le_of_ble_eq_true rfl, Nat.le_of_ble_eq_true rfl⟩) hP hS (fun ce q9 H locs hP hS h1 h2 h3 => ?_)
    refine vx_catch (own := RL) (name := nmS) (E := nmS) hown [] ⟨0, 5, 6, 15⟩ [] htab (fun z hz => nomatch hz) (by decide) (by decide) (hts (.classLink RL 15 "java/lang/IllegalStateException") (List.mem_of_getElem? (i := 1) (by decide +kernel))) (va_Nw.use (A := _) rfl hG.2.1.1.2.2) h1 h2 h3 ?_
    refine lv_astore_n (lv' := [(2, .ref q9), (0, .ref (o 0)), (1, .int (nI c))]) hx hb dL_done_6 rfl hl (by decide) rfl (fun ls hl => ?_)
    refine o_bipush (k := 4294967293) hx hb dL_done_7 (by decide) ?_
    exact vx_ret (W.iret (v := nI 4294967293) hx hb hrt (fun t ht hW => ⟨⟨_, (x, v, V), rfl, ⟨4294967293, rfl, qa_A3 h⟩, by show va_P D vwCl _ t.heap; rw [ht]; exact hP⟩, hS.F ht⟩) hS.2.2 dL_done_9)
set_option maxHeartbeats 4000000 in
set_option maxRecDepth 100000 in
theorem l_begin (l : Launch) (D : va_G) (cI cR cS cL : ClassId) (hfl : l.stackTraces = false) (sz : Nat) (o : Nat → Nat) (x v : Nat → Nat → Nat) (V : Nat → Nat → Nat → Nat) (b : Nat) (q9 r9 : Nat) (r : Nat) (h : qa_G b x v V) (hb : b < 2 ^ 27) (hr : r < 4) (hq : q9 < 17) : vx_Met l yL_begin wsL_begin ({ frames := 7, cells := 1, slots := 6, locals := 103 }) (va_Pc [.ref (o 0), .int (nI r)] (o_F D (o_T cI cR cS cL) (wO o cI cR cS x v (wV o cI cR V)) sz)) (va_Qi (fun rz (u : ya_S) => ∃ t, rz = nI t ∧ qa_A b q9 r9 t x v u.1 u.2.1 u.2.2) (fun (u : ya_S) t => va_P D vwCl (wO o cI cR cS u.1 u.2.1 (wV o cI cR u.2.2)) t.heap) (va_A (wO o cI cR cS x v (wV o cI cR V)) sz)) o_x0 1 6 (va_A (wO o cI cR cS x v (wV o cI cR V)) sz) := by
  have hSI := h.2.2.1.1
  have hb28 : b < 2 ^ 28 := by omega
  have h3 := h.1
  have h4 := h.2.1
  have hn0 : v 0 0 < 2 ^ 29 := by have := hSI.1.1; omega
  refine vx_ofWH (cc := cL_begin) (maxL := 3) (ret := (some .int)) (hh := [(0, 5, 6, 15)]) (by decide) rfl ?_
  intro p e s m args below meth cd s₁ B hml hv
  obtain ⟨rfl, hsz, hP, hK, hD0, hG⟩ := hv
  have hx := B.exec
  have hb := B.bytes
  have hrt := B.returns
  have hts := atoms_spec (ws := wsL_begin) B.pre
  have hown : s.vm.findClass RL = some m.cls := findClass_of_methodNamed B.named
  have hlocks := B.notSynchronized
  have htab := vx_table (x := yL_begin) B (hts _ List.mem_cons_self)
  subst hsz
  have hD := hD0.self (sz := s.heap.size)
  generalize hAe : va_A (wO o cI cR cS x v (wV o cI cR V)) s.heap.size = A at hD hG ⊢
  have hA : ∀ q : Nat, s.heap.size ≤ q → A q := fun q h => by rw [← hAe]; exact Or.inr h
  have hS : va_S A s.heap s.heap [] := va_S.rf
  have hN := hG.1
  have hl := lv_entry ([.ref (o 0), .int (nI r)]) (n := 3) (Nat.le_of_ble_eq_true rfl)
  rw [lg_entry_eq]
  generalize (lg_sl ([.ref (o 0), .int (nI r)]) ++ List.replicate (3 - (lg_sl ([.ref (o 0), .int (nI r)])).length) Slot.unset).toArray = ls at hl ⊢
  have hl : lv_has ls 3 [(0, .ref (o 0)), (1, .int (nI r))] := hl
  refine lv_aload_n hx hb dL_begin_0 rfl (lv_at hl 0 rfl) ?_
  refine lv_iload_n hx hb dL_begin_1 rfl (lv_at hl 1 rfl) ?_
  by_cases ha : s_mb v r
  · skip
    refine o_wiA (va_runV (As := [.int (nI r)]) (rest := []) ⟨hx, hb, hml, hown, hts⟩ (k_X4_begin l D cI cR cS cL s.heap.size o x v V b r hSI hb28 h3 h4 (by first | assumption | omega) (by first | assumption | omega)) (cwV 1 hts gL_begin_X4_begin rfl rfl rfl (by decide +kernel) ⟨Nat.le_of_ble_eq_true rfl, Nat.le_of_ble_eq_true rfl⟩) (o_v (o_pB hK hN hP hD) (va_recv hK hP (ci := 4) (q0 := 0) rfl rfl)) rfl rfl hl.1 rfl (lv_room (Nat.le_of_ble_eq_true rfl)) dL_begin_2 ⟨Nat.zero_le _, Nat.zero_le _⟩) hD hS hA (fun _ => rfl) (fun r1 _ H locs e1 hP hD hS => ?_)
    have e1 : r1 = nI (if s_wf v r then 0 else 1) := e1
    subst e1
    have G9 : qa_A b q9 r9 (if s_wf v r then 0 else 1) x v (va_up x 0 (c_sv (x 0))) (s_opn v r) (c_put V ((x 0 3 + x 0 4) % 6) v) := qa_A0 h (qa_begin h.2.2.1 hr ha) hq (by split <;> omega) (Nat.le_of_eq (by rw [show s_opn v r 0 = v 0 from n_up_ne2 (by omega)]))
    refine W.widen (k := 1) (n := 6) (by omega) (by omega) ?_
    exact vx_ret (W.iret (v := nI (if s_wf v r then 0 else 1)) hx hb hrt (fun t ht hW => ⟨⟨_, ((va_up x 0 (c_sv (x 0))), (s_opn v r), (c_put V ((x 0 3 + x 0 4) % 6) v)), rfl, ⟨_, rfl, G9⟩, by show va_P D vwCl _ t.heap; rw [ht]; exact hP⟩, hS.F ht⟩) hS.2.2 dL_begin_5)
  · skip
    refine o_cx (E := nmS) (vx_runV (As := [.int (nI r)]) (rest := []) ⟨hx, hb, hml, hown, hts⟩ (x_X4_begin_2 l D cI cR cS cL hfl o x v (wV o cI cR V) b r hSI hb28 (by first | assumption | omega) ha) (cwV 1 hts gL_begin_X4_begin rfl rfl rfl (by decide +kernel) ⟨Nat.le_of_ble_eq_true rfl, Nat.le_of_ble_eq_true rfl⟩) (o_v (o_pE hK hG hP) (va_recv hK hP (ci := 4) (q0 := 0) rfl rfl)) rfl rfl hl.1 rfl (lv_room (Nat.le_of_ble_eq_true rfl)) dL_begin_2 ⟨Nat.le_of_ble_eq_true rfl, Nat.le_of_ble_eq_true rfl⟩) hP hS (fun ce q9 H locs hP hS h1 h2 h3 => ?_)
    refine vx_catch (own := RL) (name := nmS) (E := nmS) hown [] ⟨0, 5, 6, 15⟩ [] htab (fun z hz => nomatch hz) (by decide) (by decide) (hts (.classLink RL 15 "java/lang/IllegalStateException") (List.mem_of_getElem? (i := 1) (by decide +kernel))) (va_Nw.use (A := _) rfl hG.2.1.1.2.2) h1 h2 h3 ?_
    refine lv_astore_n (lv' := [(2, .ref q9), (0, .ref (o 0)), (1, .int (nI r))]) hx hb dL_begin_6 rfl hl (by decide) rfl (fun ls hl => ?_)
    refine o_bipush (k := 4294967293) hx hb dL_begin_7 (by decide) ?_
    exact vx_ret (W.iret (v := nI 4294967293) hx hb hrt (fun t ht hW => ⟨⟨_, (x, v, V), rfl, ⟨4294967293, rfl, qa_A3 h⟩, by show va_P D vwCl _ t.heap; rw [ht]; exact hP⟩, hS.F ht⟩) hS.2.2 dL_begin_9)
set_option maxHeartbeats 4000000 in
set_option maxRecDepth 100000 in
theorem l_look (l : Launch) (D : va_G) (cI cR cS cL : ClassId) (hfl : l.stackTraces = false) (sz : Nat) (o : Nat → Nat) (x v : Nat → Nat → Nat) (V : Nat → Nat → Nat → Nat) (b : Nat) (q9 : Nat) (r : Nat) (h : qa_G b x v V) (hb : b < 2 ^ 27) (hr : r < 4) : vx_Met l yL_look wsL_look ({ frames := 7, cells := 1, slots := 6, locals := 108 }) (va_Pc [.ref (o 0), .int (nI r)] (o_F D (o_T cI cR cS cL) (wO o cI cR cS x v (wV o cI cR V)) sz)) (va_Qi (fun rz (u : ya_S) => ∃ t, rz = nI t ∧ qa_A b q9 r t x v u.1 u.2.1 u.2.2) (fun (u : ya_S) t => va_P D vwCl (wO o cI cR cS u.1 u.2.1 (wV o cI cR u.2.2)) t.heap) (va_A (wO o cI cR cS x v (wV o cI cR V)) sz)) o_x0 1 6 (va_A (wO o cI cR cS x v (wV o cI cR V)) sz) := by
  have hSI := h.2.2.1.1
  have hb28 : b < 2 ^ 28 := by omega
  have h3 := h.1
  have h4 := h.2.1
  have hn0 : v 0 0 < 2 ^ 29 := by have := hSI.1.1; omega
  refine vx_ofWH (cc := cL_look) (maxL := 3) (ret := (some .int)) (hh := [(0, 5, 6, 15)]) (by decide) rfl ?_
  intro p e s m args below meth cd s₁ B hml hv
  obtain ⟨rfl, hsz, hP, hK, hD0, hG⟩ := hv
  have hx := B.exec
  have hb := B.bytes
  have hrt := B.returns
  have hts := atoms_spec (ws := wsL_look) B.pre
  have hown : s.vm.findClass RL = some m.cls := findClass_of_methodNamed B.named
  have hlocks := B.notSynchronized
  have htab := vx_table (x := yL_look) B (hts _ List.mem_cons_self)
  subst hsz
  have hD := hD0.self (sz := s.heap.size)
  generalize hAe : va_A (wO o cI cR cS x v (wV o cI cR V)) s.heap.size = A at hD hG ⊢
  have hA : ∀ q : Nat, s.heap.size ≤ q → A q := fun q h => by rw [← hAe]; exact Or.inr h
  have hS : va_S A s.heap s.heap [] := va_S.rf
  have hN := hG.1
  have hl := lv_entry ([.ref (o 0), .int (nI r)]) (n := 3) (Nat.le_of_ble_eq_true rfl)
  rw [lg_entry_eq]
  generalize (lg_sl ([.ref (o 0), .int (nI r)]) ++ List.replicate (3 - (lg_sl ([.ref (o 0), .int (nI r)])).length) Slot.unset).toArray = ls at hl ⊢
  have hl : lv_has ls 3 [(0, .ref (o 0)), (1, .int (nI r))] := hl
  refine lv_aload_n hx hb dL_look_0 rfl (lv_at hl 0 rfl) ?_
  refine lv_iload_n hx hb dL_look_1 rfl (lv_at hl 1 rfl) ?_
  by_cases ha : ¬ v (5 + 3 * r) 1 = 0
  · skip
    refine o_wiA (va_runV (As := [.int (nI r)]) (rest := []) ⟨hx, hb, hml, hown, hts⟩ (k_X4_look l D cI cR cS cL s.heap.size o x v V b r hSI hb28 h3 h4 (by first | assumption | omega) (by first | assumption | omega)) (cwV 1 hts gL_look_X4_look rfl rfl rfl (by decide +kernel) ⟨Nat.le_of_ble_eq_true rfl, Nat.le_of_ble_eq_true rfl⟩) (o_v (o_pB hK hN hP hD) (va_recv hK hP (ci := 4) (q0 := 0) rfl rfl)) rfl rfl hl.1 rfl (lv_room (Nat.le_of_ble_eq_true rfl)) dL_look_2 ⟨Nat.zero_le _, Nat.zero_le _⟩) hD hS hA (fun _ => rfl) (fun r1 _ H locs e1 hP hD hS => ?_)
    have e1 : r1 = nI (s_glr v r) := e1
    subst e1
    have G9 := qa_A9 (sort := q9) h hr ha
    refine W.widen (k := 1) (n := 6) (by omega) (by omega) ?_
    exact vx_ret (W.iret (v := nI (s_glr v r)) hx hb hrt (fun t ht hW => ⟨⟨_, ((va_up x 0 (c_sv (x 0))), (s_gl v r), (c_put V ((x 0 3 + x 0 4) % 6) v)), rfl, ⟨_, rfl, G9⟩, by show va_P D vwCl _ t.heap; rw [ht]; exact hP⟩, hS.F ht⟩) hS.2.2 dL_look_5)
  · skip
    refine o_cx (E := nmS) (vx_runV (As := [.int (nI r)]) (rest := []) ⟨hx, hb, hml, hown, hts⟩ (x_X4_look_2 l D cI cR cS cL hfl o x v (wV o cI cR V) b r hSI hb28 (by first | assumption | omega) (by omega)) (cwV 1 hts gL_look_X4_look rfl rfl rfl (by decide +kernel) ⟨Nat.le_of_ble_eq_true rfl, Nat.le_of_ble_eq_true rfl⟩) (o_v (o_pE hK hG hP) (va_recv hK hP (ci := 4) (q0 := 0) rfl rfl)) rfl rfl hl.1 rfl (lv_room (Nat.le_of_ble_eq_true rfl)) dL_look_2 ⟨Nat.le_of_ble_eq_true rfl, Nat.le_of_ble_eq_true rfl⟩) hP hS (fun ce q9 H locs hP hS h1 h2 h3 => ?_)
    refine vx_catch (own := RL) (name := nmS) (E := nmS) hown [] ⟨0, 5, 6, 15⟩ [] htab (fun z hz => nomatch hz) (by decide) (by decide) (hts (.classLink RL 15 "java/lang/IllegalStateException") (List.mem_of_getElem? (i := 1) (by decide +kernel))) (va_Nw.use (A := _) rfl hG.2.1.1.2.2) h1 h2 h3 ?_
    refine lv_astore_n (lv' := [(2, .ref q9), (0, .ref (o 0)), (1, .int (nI r))]) hx hb dL_look_6 rfl hl (by decide) rfl (fun ls hl => ?_)
    refine o_bipush (k := 4294967293) hx hb dL_look_7 (by decide) ?_
    exact vx_ret (W.iret (v := nI 4294967293) hx hb hrt (fun t ht hW => ⟨⟨_, (x, v, V), rfl, ⟨4294967293, rfl, qa_A3 h⟩, by show va_P D vwCl _ t.heap; rw [ht]; exact hP⟩, hS.F ht⟩) hS.2.2 dL_look_9)
set_option maxHeartbeats 4000000 in
set_option maxRecDepth 100000 in
theorem l_undo (l : Launch) (D : va_G) (cI cR cS cL : ClassId) (hfl : l.stackTraces = false) (sz : Nat) (o : Nat → Nat) (x v : Nat → Nat → Nat) (V : Nat → Nat → Nat → Nat) (b : Nat) (r9 : Nat) (h : qa_G b x v V) (hb : b < 2 ^ 27)  : vx_Met l yL_undo wsL_undo ({ frames := 7, cells := 1, slots := 6, locals := 102 }) (va_Pc [.ref (o 0)] (o_F D (o_T cI cR cS cL) (wO o cI cR cS x v (wV o cI cR V)) sz)) (va_Qi (fun rz (u : ya_S) => ∃ t, rz = nI t ∧ qa_A b 17 r9 t x v u.1 u.2.1 u.2.2) (fun (u : ya_S) t => va_P D vwCl (wO o cI cR cS u.1 u.2.1 (wV o cI cR u.2.2)) t.heap) (va_A (wO o cI cR cS x v (wV o cI cR V)) sz)) o_x0 1 6 (va_A (wO o cI cR cS x v (wV o cI cR V)) sz) := by
  have hSI := h.2.2.1.1
  have hb28 : b < 2 ^ 28 := by omega
  have h3 := h.1
  have h4 := h.2.1
  have hn0 : v 0 0 < 2 ^ 29 := by have := hSI.1.1; omega
  refine vx_ofWH (cc := cL_undo) (maxL := 2) (ret := (some .int)) (hh := [(0, 4, 5, 15)]) (by decide) rfl ?_
  intro p e s m args below meth cd s₁ B hml hv
  obtain ⟨rfl, hsz, hP, hK, hD0, hG⟩ := hv
  have hx := B.exec
  have hb := B.bytes
  have hrt := B.returns
  have hts := atoms_spec (ws := wsL_undo) B.pre
  have hown : s.vm.findClass RL = some m.cls := findClass_of_methodNamed B.named
  have hlocks := B.notSynchronized
  have htab := vx_table (x := yL_undo) B (hts _ List.mem_cons_self)
  subst hsz
  have hD := hD0.self (sz := s.heap.size)
  generalize hAe : va_A (wO o cI cR cS x v (wV o cI cR V)) s.heap.size = A at hD hG ⊢
  have hA : ∀ q : Nat, s.heap.size ≤ q → A q := fun q h => by rw [← hAe]; exact Or.inr h
  have hS : va_S A s.heap s.heap [] := va_S.rf
  have hN := hG.1
  have hl := lv_entry ([.ref (o 0)]) (n := 2) (Nat.le_of_ble_eq_true rfl)
  rw [lg_entry_eq]
  generalize (lg_sl ([.ref (o 0)]) ++ List.replicate (2 - (lg_sl ([.ref (o 0)])).length) Slot.unset).toArray = ls at hl ⊢
  have hl : lv_has ls 2 [(0, .ref (o 0))] := hl
  refine lv_aload_n hx hb dL_undo_0 rfl (lv_at hl 0 rfl) ?_
  by_cases ha : 0 < x 0 4
  · skip
    refine o_wiA (va_runV (As := []) (rest := []) ⟨hx, hb, hml, hown, hts⟩ (k_X4_undo l D cI cR cS cL s.heap.size o x v V b h3 h4 ha (fun j hj => (h.2.2.2 j hj).1) hb28) (cwV 0 hts gL_undo_X4_undo rfl rfl rfl (by decide +kernel) ⟨Nat.le_of_ble_eq_true rfl, Nat.le_of_ble_eq_true rfl⟩) (o_v (o_pB hK hN hP hD) (va_recv hK hP (ci := 4) (q0 := 0) rfl rfl)) rfl rfl hl.1 rfl (lv_room (Nat.le_of_ble_eq_true rfl)) dL_undo_1 ⟨Nat.zero_le _, Nat.zero_le _⟩) hD hS hA (fun _ => rfl) (fun r1 _ H locs e1 hP hD hS => ?_)
    have e1 : r1 = nI (x 0 4 - 1) := e1
    subst e1
    have G9 := qa_Au (r := r9) h
    refine W.widen (k := 1) (n := 6) (by omega) (by omega) ?_
    exact vx_ret (W.iret (v := nI (x 0 4 - 1)) hx hb hrt (fun t ht hW => ⟨⟨_, ((va_up x 0 (va_up (x 0) 4 (x 0 4 - 1))), (V ((x 0 3 + (x 0 4 - 1)) % 6)), V), rfl, ⟨_, rfl, G9⟩, by show va_P D vwCl _ t.heap; rw [ht]; exact hP⟩, hS.F ht⟩) hS.2.2 dL_undo_4)
  · skip
    refine o_cx (E := nmS) (vx_runV (As := []) (rest := []) ⟨hx, hb, hml, hown, hts⟩ (x_X4_undo_1 l D cI cR cS cL hfl o x v (wV o cI cR V) b (by omega)) (cwV 0 hts gL_undo_X4_undo rfl rfl rfl (by decide +kernel) ⟨Nat.le_of_ble_eq_true rfl, Nat.le_of_ble_eq_true rfl⟩) (o_v (o_pE hK hG hP) (va_recv hK hP (ci := 4) (q0 := 0) rfl rfl)) rfl rfl hl.1 rfl (lv_room (Nat.le_of_ble_eq_true rfl)) dL_undo_1 ⟨Nat.le_of_ble_eq_true rfl, Nat.le_of_ble_eq_true rfl⟩) hP hS (fun ce q9 H locs hP hS h1 h2 h3 => ?_)
    refine vx_catch (own := RL) (name := nmS) (E := nmS) hown [] ⟨0, 4, 5, 15⟩ [] htab (fun z hz => nomatch hz) (by decide) (by decide) (hts (.classLink RL 15 "java/lang/IllegalStateException") (List.mem_of_getElem? (i := 1) (by decide +kernel))) (va_Nw.use (A := _) rfl hG.2.1.1.2.2) h1 h2 h3 ?_
    refine lv_astore_n (lv' := [(1, .ref q9), (0, .ref (o 0))]) hx hb dL_undo_5 rfl hl (by decide) rfl (fun ls hl => ?_)
    refine o_bipush (k := 4294967293) hx hb dL_undo_6 (by decide) ?_
    exact vx_ret (W.iret (v := nI 4294967293) hx hb hrt (fun t ht hW => ⟨⟨_, (x, v, V), rfl, ⟨4294967293, rfl, qa_A3 h⟩, by show va_P D vwCl _ t.heap; rw [ht]; exact hP⟩, hS.F ht⟩) hS.2.2 dL_undo_8)
