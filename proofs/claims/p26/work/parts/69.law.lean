/-- what holds throughout the law -/
def ya_L (p : Program) (l : Launch) (s : State) (m : MethodId) (args : Array Value) (c : Code) (D : va_G) (cI cR cS cL : ClassId) (sb L : Nat) (xs : Nat → Int32) : Prop := p.tables.exec = Jvm.exec ∧ c.code = cL_law ∧ c.maxLocals = 13 ∧ s.vm.findClass RL = some m.cls ∧ (∀ w ∈ wsL_law, w.before args s = true) ∧ va_K D vwCl (o_T cI cR cS cL) s ∧ l.stackTraces = false ∧ (va_X sb L xs s s.heap ∧ sb < s.heap.size ∧ L ≤ 260) ∧ o_G (z_A s) s s.heap
/-- the class's world at a step of the law -/
def ya_St (s : State) (D : va_G) (o : Nat → Nat) (cI cR cS : ClassId) (x v : Nat → Nat → Nat) (V : Nat → Nat → Nat → Nat) (B : Nat) (H : Heap) (locs : List Loc) : Prop := va_P D vwCl (ya_W o cI cR cS x v V) H ∧ va_D (z_A s) (ya_W o cI cR cS x v V) ∧ va_S (z_A s) s.heap H locs ∧ qa_G B x v V
set_option maxHeartbeats 4000000 in
set_option maxRecDepth 100000 in
theorem ya_323 {p : Program} {l : Launch} {e : Env} {s : State} {m : MethodId} {args : Array Value} {below : List Frame} {meth : Method} {c : Code} {Q : State → Prop} {D : va_G} {cI cR cS cL : ClassId} {sb L : Nat} {xs : Nat → Int32} {o : Nat → Nat} {k T B cells slots : Nat} {H : Heap} {locs : List Loc} {ls : Array Slot} {x v : Nat → Nat → Nat} {V : Nat → Nat → Nat → Nat} (C : ya_L p l s m args c D cI cR cS cL sb L xs) (h : ya_St s D o cI cR cS x v V B H locs) (hB : B < 2 ^ 26) (hc : cells ≤ 602736) (hsl : slots ≤ 7292974) (hl : lv_has ls 13 [(4, .int (nI k)), (2, .int (nI 1)), (3, .int (nI T)), (1, .ref (o 0)), (0, .ref sb)]) (K : ∀ (H : Heap) (locs : List Loc) (ls : Array Slot) (x : Nat → Nat → Nat), ya_St s D o cI cR cS x v V B H locs → lv_has ls 13 [(4, .int (nI k)), (2, .int (nI 1)), (3, .int (nI T)), (1, .ref (o 0)), (0, .ref sb)] → W p l e room_1 s m args below meth c H locs cells slots Q (F0 m 340 ls [])) : W p l e room_1 s m args below meth c H locs cells slots Q (F0 m 323 ls []) := by
  have C0 := C
  have h0 := h
  obtain ⟨hx, hb, hml, hown, hts, hK, hfl, hX, hG⟩ := C
  obtain ⟨hP, hD, hS, G⟩ := h
  have hN := hG.1
  have hI := G.2.2.1
  have hSI := hI.1
  have hb28 : B < 2 ^ 28 := by omega
  have hn0 : v 0 0 < 2 ^ 29 := by have := hSI.1.1; omega
  have hx4 := G.2.1
  have hA : ∀ q : Nat, s.heap.size ≤ q → z_A s q := fun _ h => h
  refine lv_iload_n hx hb dL_law_323 rfl (lv_at hl 1 rfl) ?_
  refine o_if_eq (tgt := 338) hx hb dL_law_324 (by decide) (Nat.le_of_ble_eq_true rfl) (fun z => absurd z (by decide)) (fun _ => ?_)
  refine lv_aload_n hx hb dL_law_327 rfl (lv_at hl 3 rfl) ?_
  refine ya_wi (va_runS (As := [.ref (o 0)]) (rest := []) ⟨hx, hb, hml, hown, hts⟩ (l_board l D cI cR cS cL H.size o x v (wV o cI cR V) B hI (by omega)) (va_cwS 1 hts gL_law_L_board rfl rfl rfl (by decide +kernel) ⟨Nat.le_of_ble_eq_true rfl, Nat.le_of_ble_eq_true rfl⟩) (o_pB hK hN hP hD) rfl rfl hl.1 rfl (lv_room (Nat.le_of_ble_eq_true rfl)) dL_law_328 ⟨show cells + 0 ≤ 602736 by omega, show slots + 0 ≤ 7292974 by omega⟩) hD hS hA (fun _ => rfl) (fun r1 u H locs e1 hP hD hS => ?_)
  have hu : u 0 = x 0 := e1.2
  have e1 : r1 = nI 1 := e1.1
  subst e1
  refine o_if_eq (tgt := 338) hx hb dL_law_331 (by decide) (Nat.le_of_ble_eq_true rfl) (fun z => absurd z (by decide)) (fun _ => ?_)
  refine o_const (k := 1) hx hb dL_law_334 (by decide) ?_
  refine lv_goto (tgt := 339) hx hb dL_law_335 (by decide) ?_
  refine lv_istore_n (lv' := [(2, .int (nI 1)), (4, .int (nI k)), (3, .int (nI T)), (1, .ref (o 0)), (0, .ref sb)]) hx hb dL_law_339 rfl hl (by decide) rfl (fun ls hl => ?_)
  exact K H locs ls u ⟨hP, hD, hS, by unfold qa_G; rw [hu]; exact G⟩ (lv_sub hl [1, 0, 2, 3, 4] rfl)
set_option maxHeartbeats 4000000 in
set_option maxRecDepth 100000 in
theorem ya_h {p : Program} {l : Launch} {e : Env} {s : State} {m : MethodId} {args : Array Value} {below : List Frame} {meth : Method} {c : Code} {Q : State → Prop} {D : va_G} {cI cR cS cL : ClassId} {sb L : Nat} {xs : Nat → Int32} {o : Nat → Nat} {k T B cells slots : Nat} {H : Heap} {locs : List Loc} {ls : Array Slot} {x v : Nat → Nat → Nat} {V : Nat → Nat → Nat → Nat} {f r9 : Nat} (C : ya_L p l s m args c D cI cR cS cL sb L xs) (h : ya_St s D o cI cR cS x v V B H locs) (hB : B < 2 ^ 26) (hc : cells ≤ 602736) (hsl : slots ≤ 7292974) (hr : r9 < 4) (hf : f < 5) (hF : ∀ f, f < 5 → c_has v r9 f = v 1 f) (hl : lv_has ls 13 [(12, .int (nI f)), (10, .int (nI r9)), (4, .int (nI k)), (2, .int (nI 1)), (3, .int (nI T)), (1, .ref (o 0)), (0, .ref sb)]) (K : ∀ ls, lv_has ls 13 [(12, .int (nI (f + 1))), (10, .int (nI r9)), (4, .int (nI k)), (2, .int (nI 1)), (3, .int (nI T)), (1, .ref (o 0)), (0, .ref sb)] → W p l e room_1 s m args below meth c H locs cells slots Q (F0 m 284 ls [])) : W p l e room_1 s m args below meth c H locs cells slots Q (F0 m 284 ls []) := by
  have C0 := C
  have h0 := h
  obtain ⟨hx, hb, hml, hown, hts, hK, hfl, hX, hG⟩ := C
  obtain ⟨hP, hD, hS, G⟩ := h
  have hN := hG.1
  have hI := G.2.2.1
  have hSI := hI.1
  have hb28 : B < 2 ^ 28 := by omega
  have hn0 : v 0 0 < 2 ^ 29 := by have := hSI.1.1; omega
  have hx4 := G.2.1
  have hA : ∀ q : Nat, s.heap.size ≤ q → z_A s q := fun _ h => h
  have hfv : v 1 f < 100 := hI.2.2.1.1 f hf
  refine lv_iload hx hb dL_law_284 (lv_at hl 0 rfl) ?_
  refine o_const (k := 5) hx hb dL_law_286 (by decide) ?_
  refine o_icmp_ge (tgt := 323) hx hb dL_law_287 (by decide) (by omega) (Nat.le_of_ble_eq_true rfl) (fun z => absurd z (by omega)) (fun _ => ?_)
  refine lv_iload_n hx hb dL_law_290 rfl (lv_at hl 3 rfl) ?_
  refine o_if_eq (tgt := 323) hx hb dL_law_291 (by decide) (Nat.le_of_ble_eq_true rfl) (fun z => absurd z (by decide)) (fun _ => ?_)
  refine lv_aload_n hx hb dL_law_294 rfl (lv_at hl 5 rfl) ?_
  refine lv_iload hx hb dL_law_295 (lv_at hl 1 rfl) ?_
  refine lv_iload hx hb dL_law_297 (lv_at hl 0 rfl) ?_
  refine o_ri (va_runV (As := [.int (nI r9), .int (nI f)]) (rest := []) ⟨hx, hb, hml, hown, hts⟩ (k_X4_has l D cI cR cS cL o x v (wV o cI cR V) B r9 f hSI hb28 (by omega) (by omega)) (cwV 2 hts gL_law_X4_has rfl rfl rfl (by decide +kernel) ⟨Nat.le_of_ble_eq_true rfl, Nat.le_of_ble_eq_true rfl⟩) (o_v (o_pR hK hN hP) (va_recv hK hP (ci := 4) (q0 := 0) rfl rfl)) rfl rfl hl.1 rfl (lv_room (Nat.le_of_ble_eq_true rfl)) dL_law_299 ⟨show cells + 0 ≤ 602736 by omega, show slots + 0 ≤ 7292974 by omega⟩) (fun r1 e1 => ?_)
  have e1 : r1 = nI (c_has v r9 f) := e1
  subst e1
  refine o_ti (show nI (c_has v r9 f) = nI (v 1 f) from congrArg nI (hF f hf)) ?_
  refine lv_aload_n hx hb dL_law_302 rfl (lv_at hl 5 rfl) ?_
  refine lv_iload hx hb dL_law_303 (lv_at hl 0 rfl) ?_
  refine o_ri (va_runV (As := [.int (nI f)]) (rest := [.int (nI (v 1 f))]) ⟨hx, hb, hml, hown, hts⟩ (k_X4_field l D cI cR cS cL o x v (wV o cI cR V) B f (by omega)) (cwV 1 hts gL_law_X4_field rfl rfl rfl (by decide +kernel) ⟨Nat.le_of_ble_eq_true rfl, Nat.le_of_ble_eq_true rfl⟩) (o_v (o_pR hK hN hP) (va_recv hK hP (ci := 4) (q0 := 0) rfl rfl)) rfl rfl hl.1 rfl (lv_room (Nat.le_of_ble_eq_true rfl)) dL_law_305 ⟨show cells + 0 ≤ 602736 by omega, show slots + 0 ≤ 7292974 by omega⟩) (fun r1 e1 => ?_)
  have e1 : r1 = nI (v 1 f) := e1
  subst e1
  refine o_ti (show nI (v 1 f) = nI (v 1 f) from congrArg nI rfl) ?_
  refine o_icmp_ne (tgt := 315) hx hb dL_law_308 (by decide) (by omega) (by omega) (fun z => absurd z (by omega)) (fun _ => ?_)
  refine o_const (k := 1) hx hb dL_law_311 (by decide) ?_
  refine lv_goto (tgt := 316) hx hb dL_law_312 (by decide) ?_
  refine lv_istore_n (lv' := [(2, .int (nI 1)), (12, .int (nI f)), (10, .int (nI r9)), (4, .int (nI k)), (3, .int (nI T)), (1, .ref (o 0)), (0, .ref sb)]) hx hb dL_law_316 rfl hl (by decide) rfl (fun ls hl => ?_)
  refine lv_iinc (v := nI (f + 1)) (lv' := [(12, .int (nI (f + 1))), (2, .int (nI 1)), (10, .int (nI r9)), (4, .int (nI k)), (3, .int (nI T)), (1, .ref (o 0)), (0, .ref sb)]) hx hb dL_law_317 hl (k := 1) rfl (o_inc1 _) (by decide) rfl (fun ls hl => ?_)
  refine lv_goto (tgt := 284) hx hb dL_law_320 (by decide) ?_
  exact K ls (lv_sub hl [0, 2, 3, 1, 4, 5, 6] rfl)
set_option maxHeartbeats 4000000 in
set_option maxRecDepth 100000 in
theorem ya_hx {p : Program} {l : Launch} {e : Env} {s : State} {m : MethodId} {args : Array Value} {below : List Frame} {meth : Method} {c : Code} {Q : State → Prop} {D : va_G} {cI cR cS cL : ClassId} {sb L : Nat} {xs : Nat → Int32} {o : Nat → Nat} {k T B cells slots : Nat} {H : Heap} {locs : List Loc} {ls : Array Slot} {x v : Nat → Nat → Nat} {V : Nat → Nat → Nat → Nat} {r9 : Nat} (C : ya_L p l s m args c D cI cR cS cL sb L xs) (h : ya_St s D o cI cR cS x v V B H locs) (hB : B < 2 ^ 26) (hc : cells ≤ 602736) (hsl : slots ≤ 7292974) (hl : lv_has ls 13 [(12, .int (nI 5)), (10, .int (nI r9)), (4, .int (nI k)), (2, .int (nI 1)), (3, .int (nI T)), (1, .ref (o 0)), (0, .ref sb)]) (K : ∀ ls, lv_has ls 13 [(4, .int (nI k)), (2, .int (nI 1)), (3, .int (nI T)), (1, .ref (o 0)), (0, .ref sb)] → W p l e room_1 s m args below meth c H locs cells slots Q (F0 m 323 ls [])) : W p l e room_1 s m args below meth c H locs cells slots Q (F0 m 284 ls []) := by
  have C0 := C
  have h0 := h
  obtain ⟨hx, hb, hml, hown, hts, hK, hfl, hX, hG⟩ := C
  obtain ⟨hP, hD, hS, G⟩ := h
  have hN := hG.1
  have hI := G.2.2.1
  have hSI := hI.1
  have hb28 : B < 2 ^ 28 := by omega
  have hn0 : v 0 0 < 2 ^ 29 := by have := hSI.1.1; omega
  have hx4 := G.2.1
  have hA : ∀ q : Nat, s.heap.size ≤ q → z_A s q := fun _ h => h
  refine lv_iload hx hb dL_law_284 (lv_at hl 0 rfl) ?_
  refine o_const (k := 5) hx hb dL_law_286 (by decide) ?_
  refine o_icmp_ge (tgt := 323) hx hb dL_law_287 (by decide) (Nat.le_of_ble_eq_true rfl) (Nat.le_of_ble_eq_true rfl) (fun _ => ?_) (fun z => absurd z (by decide))
  exact K ls (lv_sub hl [2, 3, 4, 5, 6] rfl)
set_option maxHeartbeats 4000000 in
set_option maxRecDepth 100000 in
theorem ya_226 {p : Program} {l : Launch} {e : Env} {s : State} {m : MethodId} {args : Array Value} {below : List Frame} {meth : Method} {c : Code} {Q : State → Prop} {D : va_G} {cI cR cS cL : ClassId} {sb L : Nat} {xs : Nat → Int32} {o : Nat → Nat} {k T B cells slots : Nat} {H : Heap} {locs : List Loc} {ls : Array Slot} {x v : Nat → Nat → Nat} {V : Nat → Nat → Nat → Nat} {q9 r9 w0 f0 n0 s0 t : Nat} (C : ya_L p l s m args c D cI cR cS cL sb L xs) (h : ya_St s D o cI cR cS x v V B H locs) (hB : B < 2 ^ 26) (hc : cells ≤ 602736) (hsl : slots ≤ 7292974) (hr : r9 < 4) (hq : q9 < 26) (hn2 : n0 < 2 ^ 30) (hf2 : f0 < 2 ^ 29) (hw2 : w0 < 2 ^ 29) (hs2 : s0 ≤ 6) (ht : t = 4294967293 ∨ (t < 2 ^ 31 ∧ (18 ≤ q9 → t = 101 → ¬ v (5 + 3 * r9) 0 = 0 → c_rdr v r9 6 = v 0 0 / 2 ∧ ∀ f, f < 5 → c_has v r9 f = v 1 f))) (hl : lv_has ls 13 [(11, .int (nI t)), (10, .int (nI r9)), (9, .int (nI q9)), (8, .int (nI w0)), (7, .int (nI f0)), (6, .int (nI n0)), (5, .int (nI s0)), (4, .int (nI k)), (2, .int (nI 1)), (3, .int (nI T)), (1, .ref (o 0)), (0, .ref sb)]) (K : ∀ ls, lv_has ls 13 [(4, .int (nI k)), (2, .int (nI 1)), (3, .int (nI T)), (1, .ref (o 0)), (0, .ref sb)] → W p l e room_1 s m args below meth c H locs cells slots Q (F0 m 323 ls [])) : W p l e room_1 s m args below meth c H locs cells slots Q (F0 m 226 ls [.int (nI 1)]) := by
  have C0 := C
  have h0 := h
  obtain ⟨hx, hb, hml, hown, hts, hK, hfl, hX, hG⟩ := C
  obtain ⟨hP, hD, hS, G⟩ := h
  have hN := hG.1
  have hI := G.2.2.1
  have hSI := hI.1
  have hb28 : B < 2 ^ 28 := by omega
  have hn0 : v 0 0 < 2 ^ 29 := by have := hSI.1.1; omega
  have hx4 := G.2.1
  have hA : ∀ q : Nat, s.heap.size ≤ q → z_A s q := fun _ h => h
  by_cases hq17 : q9 ≤ 17
  · skip
    refine lv_istore_n (lv' := [(2, .int (nI 1)), (11, .int (nI t)), (10, .int (nI r9)), (9, .int (nI q9)), (8, .int (nI w0)), (7, .int (nI f0)), (6, .int (nI n0)), (5, .int (nI s0)), (4, .int (nI k)), (3, .int (nI T)), (1, .ref (o 0)), (0, .ref sb)]) hx hb dL_law_226 rfl hl (by decide) rfl (fun ls hl => ?_)
    refine lv_iload_n hx hb dL_law_227 rfl (lv_at hl 0 rfl) ?_
    refine o_if_eq (tgt := 323) hx hb dL_law_228 (by decide) (Nat.le_of_ble_eq_true rfl) (fun z => absurd z (by decide)) (fun _ => ?_)
    refine lv_iload hx hb dL_law_231 (lv_at hl 3 rfl) ?_
    refine o_bipush (k := 17) hx hb dL_law_233 (by decide) ?_
    refine o_icmp_le (tgt := 323) hx hb dL_law_235 (by decide) (by omega) (Nat.le_of_ble_eq_true rfl) (fun _ => ?_) (fun z => absurd z (by omega))
    exact K ls (lv_sub hl [8, 0, 9, 10, 11] rfl)
  · by_cases ht1 : t = 101
    · subst ht1
      have hD6 : ¬ v (5 + 3 * r9) 0 = 0 → c_rdr v r9 6 = v 0 0 / 2 ∧ ∀ f, f < 5 → c_has v r9 f = v 1 f := by
        rcases ht with h | h
        · exact absurd h (by decide)
        · exact h.2 (by omega) rfl
      by_cases hh : v (5 + 3 * r9) 0 = 0
      · skip
        refine lv_istore_n (lv' := [(2, .int (nI 1)), (11, .int (nI 101)), (10, .int (nI r9)), (9, .int (nI q9)), (8, .int (nI w0)), (7, .int (nI f0)), (6, .int (nI n0)), (5, .int (nI s0)), (4, .int (nI k)), (3, .int (nI T)), (1, .ref (o 0)), (0, .ref sb)]) hx hb dL_law_226 rfl hl (by decide) rfl (fun ls hl => ?_)
        refine lv_iload_n hx hb dL_law_227 rfl (lv_at hl 0 rfl) ?_
        refine o_if_eq (tgt := 323) hx hb dL_law_228 (by decide) (Nat.le_of_ble_eq_true rfl) (fun z => absurd z (by decide)) (fun _ => ?_)
        refine lv_iload hx hb dL_law_231 (lv_at hl 3 rfl) ?_
        refine o_bipush (k := 17) hx hb dL_law_233 (by decide) ?_
        refine o_icmp_le (tgt := 323) hx hb dL_law_235 (by decide) (by omega) (Nat.le_of_ble_eq_true rfl) (fun z => absurd z (by omega)) (fun _ => ?_)
        refine lv_iload hx hb dL_law_238 (lv_at hl 1 rfl) ?_
        refine o_bipush (k := 101) hx hb dL_law_240 (by decide) ?_
        refine o_icmp_ne (tgt := 323) hx hb dL_law_242 (by decide) (Nat.le_of_ble_eq_true rfl) (Nat.le_of_ble_eq_true rfl) (fun z => absurd z (by decide)) (fun _ => ?_)
        refine lv_aload_n hx hb dL_law_245 rfl (lv_at hl 10 rfl) ?_
        refine lv_iload hx hb dL_law_246 (lv_at hl 2 rfl) ?_
        refine o_bipush (k := 7) hx hb dL_law_248 (by decide) ?_
        refine o_ri (va_runV (As := [.int (nI r9), .int (nI 7)]) (rest := []) ⟨hx, hb, hml, hown, hts⟩ (k_X4_readerOf l D cI cR cS cL o x v (wV o cI cR V) B r9 7 hSI hb28 (by omega) (by omega)) (cwV 2 hts gL_law_X4_readerOf rfl rfl rfl (by decide +kernel) ⟨Nat.le_of_ble_eq_true rfl, Nat.le_of_ble_eq_true rfl⟩) (o_v (o_pR hK hN hP) (va_recv hK hP (ci := 4) (q0 := 0) rfl rfl)) rfl rfl hl.1 rfl (lv_room (Nat.le_of_ble_eq_true rfl)) dL_law_250 ⟨show cells + 0 ≤ 602736 by omega, show slots + 0 ≤ 7292974 by omega⟩) (fun r1 e1 => ?_)
        have e1 : r1 = nI (c_rdr v r9 7) := e1
        subst e1
        refine o_ti (show nI (c_rdr v r9 7) = nI 0 from congrArg nI (show c_rdr v r9 7 = 0 from if_pos hh)) ?_
        refine o_const (k := 1) hx hb dL_law_253 (by decide) ?_
        refine o_icmp_ne (tgt := 323) hx hb dL_law_254 (by decide) (Nat.le_of_ble_eq_true rfl) (Nat.le_of_ble_eq_true rfl) (fun _ => ?_) (fun z => absurd z (by decide))
        exact K ls (lv_sub hl [8, 0, 9, 10, 11] rfl)
      · obtain ⟨h6, hF⟩ := hD6 hh
        refine lv_istore_n (lv' := [(2, .int (nI 1)), (11, .int (nI 101)), (10, .int (nI r9)), (9, .int (nI q9)), (8, .int (nI w0)), (7, .int (nI f0)), (6, .int (nI n0)), (5, .int (nI s0)), (4, .int (nI k)), (3, .int (nI T)), (1, .ref (o 0)), (0, .ref sb)]) hx hb dL_law_226 rfl hl (by decide) rfl (fun ls hl => ?_)
        refine lv_iload_n hx hb dL_law_227 rfl (lv_at hl 0 rfl) ?_
        refine o_if_eq (tgt := 323) hx hb dL_law_228 (by decide) (Nat.le_of_ble_eq_true rfl) (fun z => absurd z (by decide)) (fun _ => ?_)
        refine lv_iload hx hb dL_law_231 (lv_at hl 3 rfl) ?_
        refine o_bipush (k := 17) hx hb dL_law_233 (by decide) ?_
        refine o_icmp_le (tgt := 323) hx hb dL_law_235 (by decide) (by omega) (Nat.le_of_ble_eq_true rfl) (fun z => absurd z (by omega)) (fun _ => ?_)
        refine lv_iload hx hb dL_law_238 (lv_at hl 1 rfl) ?_
        refine o_bipush (k := 101) hx hb dL_law_240 (by decide) ?_
        refine o_icmp_ne (tgt := 323) hx hb dL_law_242 (by decide) (Nat.le_of_ble_eq_true rfl) (Nat.le_of_ble_eq_true rfl) (fun z => absurd z (by decide)) (fun _ => ?_)
        refine lv_aload_n hx hb dL_law_245 rfl (lv_at hl 10 rfl) ?_
        refine lv_iload hx hb dL_law_246 (lv_at hl 2 rfl) ?_
        refine o_bipush (k := 7) hx hb dL_law_248 (by decide) ?_
        refine o_ri (va_runV (As := [.int (nI r9), .int (nI 7)]) (rest := []) ⟨hx, hb, hml, hown, hts⟩ (k_X4_readerOf l D cI cR cS cL o x v (wV o cI cR V) B r9 7 hSI hb28 (by omega) (by omega)) (cwV 2 hts gL_law_X4_readerOf rfl rfl rfl (by decide +kernel) ⟨Nat.le_of_ble_eq_true rfl, Nat.le_of_ble_eq_true rfl⟩) (o_v (o_pR hK hN hP) (va_recv hK hP (ci := 4) (q0 := 0) rfl rfl)) rfl rfl hl.1 rfl (lv_room (Nat.le_of_ble_eq_true rfl)) dL_law_250 ⟨show cells + 0 ≤ 602736 by omega, show slots + 0 ≤ 7292974 by omega⟩) (fun r1 e1 => ?_)
        have e1 : r1 = nI (c_rdr v r9 7) := e1
        subst e1
        refine o_ti (show nI (c_rdr v r9 7) = nI 1 from congrArg nI (show c_rdr v r9 7 = 1 from if_neg hh)) ?_
        refine o_const (k := 1) hx hb dL_law_253 (by decide) ?_
        refine o_icmp_ne (tgt := 323) hx hb dL_law_254 (by decide) (Nat.le_of_ble_eq_true rfl) (Nat.le_of_ble_eq_true rfl) (fun z => absurd z (by decide)) (fun _ => ?_)
        refine lv_aload_n hx hb dL_law_257 rfl (lv_at hl 10 rfl) ?_
        refine lv_iload hx hb dL_law_258 (lv_at hl 2 rfl) ?_
        refine o_bipush (k := 6) hx hb dL_law_260 (by decide) ?_
        refine o_ri (va_runV (As := [.int (nI r9), .int (nI 6)]) (rest := []) ⟨hx, hb, hml, hown, hts⟩ (k_X4_readerOf l D cI cR cS cL o x v (wV o cI cR V) B r9 6 hSI hb28 (by omega) (by omega)) (cwV 2 hts gL_law_X4_readerOf rfl rfl rfl (by decide +kernel) ⟨Nat.le_of_ble_eq_true rfl, Nat.le_of_ble_eq_true rfl⟩) (o_v (o_pR hK hN hP) (va_recv hK hP (ci := 4) (q0 := 0) rfl rfl)) rfl rfl hl.1 rfl (lv_room (Nat.le_of_ble_eq_true rfl)) dL_law_262 ⟨show cells + 0 ≤ 602736 by omega, show slots + 0 ≤ 7292974 by omega⟩) (fun r1 e1 => ?_)
        have e1 : r1 = nI (c_rdr v r9 6) := e1
        subst e1
        refine o_ti (show nI (c_rdr v r9 6) = nI ((v 0 0) / 2) from congrArg nI h6) ?_
        refine lv_aload_n hx hb dL_law_265 rfl (lv_at hl 10 rfl) ?_
        refine o_const (k := 0) hx hb dL_law_266 (by decide) ?_
        refine o_ri (va_runV (As := [.int (nI 0)]) (rest := [.int (nI ((v 0 0) / 2))]) ⟨hx, hb, hml, hown, hts⟩ (k_X4_count l D cI cR cS cL o x v (wV o cI cR V) B 0 hSI hb28 (by omega)) (cwV 1 hts gL_law_X4_count rfl rfl rfl (by decide +kernel) ⟨Nat.le_of_ble_eq_true rfl, Nat.le_of_ble_eq_true rfl⟩) (o_v (o_pR hK hN hP) (va_recv hK hP (ci := 4) (q0 := 0) rfl rfl)) rfl rfl hl.1 rfl (lv_room (Nat.le_of_ble_eq_true rfl)) dL_law_267 ⟨show cells + 0 ≤ 602736 by omega, show slots + 0 ≤ 7292974 by omega⟩) (fun r1 e1 => ?_)
        have e1 : r1 = nI (c_cnt v (x 0 4) 0) := e1
        subst e1
        refine o_ti (show nI (c_cnt v (x 0 4) 0) = nI (v 0 0) from congrArg nI rfl) ?_
        refine o_const (k := 2) hx hb dL_law_270 (by decide) ?_
        refine o_idiv (a := (v 0 0)) (b := 2) (k := ((v 0 0) / 2)) hx hb dL_law_271 (by omega) (by decide) (Nat.le_of_ble_eq_true rfl) rfl ?_
        refine o_icmp_ne (tgt := 279) hx hb dL_law_272 (by decide) (by omega) (by omega) (fun z => absurd z (by omega)) (fun _ => ?_)
        refine o_const (k := 1) hx hb dL_law_275 (by decide) ?_
        refine lv_goto (tgt := 280) hx hb dL_law_276 (by decide) ?_
        refine lv_istore_n (lv' := [(2, .int (nI 1)), (11, .int (nI 101)), (10, .int (nI r9)), (9, .int (nI q9)), (8, .int (nI w0)), (7, .int (nI f0)), (6, .int (nI n0)), (5, .int (nI s0)), (4, .int (nI k)), (3, .int (nI T)), (1, .ref (o 0)), (0, .ref sb)]) hx hb dL_law_280 rfl hl (by decide) rfl (fun ls hl => ?_)
        refine o_const (k := 0) hx hb dL_law_281 (by decide) ?_
        refine lv_istore (lv' := [(12, .int (nI 0)), (2, .int (nI 1)), (11, .int (nI 101)), (10, .int (nI r9)), (9, .int (nI q9)), (8, .int (nI w0)), (7, .int (nI f0)), (6, .int (nI n0)), (5, .int (nI s0)), (4, .int (nI k)), (3, .int (nI T)), (1, .ref (o 0)), (0, .ref sb)]) hx hb dL_law_282 hl (by decide) rfl (fun ls hl => ?_)
        have hl : lv_has ls 13 [(12, .int (nI 0)), (10, .int (nI r9)), (4, .int (nI k)), (2, .int (nI 1)), (3, .int (nI T)), (1, .ref (o 0)), (0, .ref sb)] := (lv_sub hl [0, 3, 9, 1, 10, 11, 12] rfl)
        refine ya_h (f := 0) C0 h0 hB hc hsl hr (by decide) hF hl (fun ls hl => ?_)
        refine ya_h (f := 1) C0 h0 hB hc hsl hr (by decide) hF hl (fun ls hl => ?_)
        refine ya_h (f := 2) C0 h0 hB hc hsl hr (by decide) hF hl (fun ls hl => ?_)
        refine ya_h (f := 3) C0 h0 hB hc hsl hr (by decide) hF hl (fun ls hl => ?_)
        refine ya_h (f := 4) C0 h0 hB hc hsl hr (by decide) hF hl (fun ls hl => ?_)
        exact ya_hx C0 h0 hB hc hsl hl K
    · rcases ht with rfl | ⟨ht, _⟩
      · skip
        refine lv_istore_n (lv' := [(2, .int (nI 1)), (11, .int (nI 4294967293)), (10, .int (nI r9)), (9, .int (nI q9)), (8, .int (nI w0)), (7, .int (nI f0)), (6, .int (nI n0)), (5, .int (nI s0)), (4, .int (nI k)), (3, .int (nI T)), (1, .ref (o 0)), (0, .ref sb)]) hx hb dL_law_226 rfl hl (by decide) rfl (fun ls hl => ?_)
        refine lv_iload_n hx hb dL_law_227 rfl (lv_at hl 0 rfl) ?_
        refine o_if_eq (tgt := 323) hx hb dL_law_228 (by decide) (Nat.le_of_ble_eq_true rfl) (fun z => absurd z (by decide)) (fun _ => ?_)
        refine lv_iload hx hb dL_law_231 (lv_at hl 3 rfl) ?_
        refine o_bipush (k := 17) hx hb dL_law_233 (by decide) ?_
        refine o_icmp_le (tgt := 323) hx hb dL_law_235 (by decide) (by omega) (Nat.le_of_ble_eq_true rfl) (fun z => absurd z (by omega)) (fun _ => ?_)
        refine lv_iload hx hb dL_law_238 (lv_at hl 1 rfl) ?_
        refine o_bipush (k := 101) hx hb dL_law_240 (by decide) ?_
        refine o_icmp_ne (tgt := 323) hx hb dL_law_242 (by decide) (Nat.le_of_ble_eq_true rfl) (Nat.le_of_ble_eq_true rfl) (fun _ => ?_) (fun z => absurd z (by decide))
        exact K ls (lv_sub hl [8, 0, 9, 10, 11] rfl)
      · skip
        refine lv_istore_n (lv' := [(2, .int (nI 1)), (11, .int (nI t)), (10, .int (nI r9)), (9, .int (nI q9)), (8, .int (nI w0)), (7, .int (nI f0)), (6, .int (nI n0)), (5, .int (nI s0)), (4, .int (nI k)), (3, .int (nI T)), (1, .ref (o 0)), (0, .ref sb)]) hx hb dL_law_226 rfl hl (by decide) rfl (fun ls hl => ?_)
        refine lv_iload_n hx hb dL_law_227 rfl (lv_at hl 0 rfl) ?_
        refine o_if_eq (tgt := 323) hx hb dL_law_228 (by decide) (Nat.le_of_ble_eq_true rfl) (fun z => absurd z (by decide)) (fun _ => ?_)
        refine lv_iload hx hb dL_law_231 (lv_at hl 3 rfl) ?_
        refine o_bipush (k := 17) hx hb dL_law_233 (by decide) ?_
        refine o_icmp_le (tgt := 323) hx hb dL_law_235 (by decide) (by omega) (Nat.le_of_ble_eq_true rfl) (fun z => absurd z (by omega)) (fun _ => ?_)
        refine lv_iload hx hb dL_law_238 (lv_at hl 1 rfl) ?_
        refine o_bipush (k := 101) hx hb dL_law_240 (by decide) ?_
        refine o_icmp_ne (tgt := 323) hx hb dL_law_242 (by decide) (by omega) (Nat.le_of_ble_eq_true rfl) (fun _ => ?_) (fun z => absurd z (by omega))
        exact K ls (lv_sub hl [8, 0, 9, 10, 11] rfl)
set_option maxHeartbeats 4000000 in
set_option maxRecDepth 100000 in
theorem ya_186 {p : Program} {l : Launch} {e : Env} {s : State} {m : MethodId} {args : Array Value} {below : List Frame} {meth : Method} {c : Code} {Q : State → Prop} {D : va_G} {cI cR cS cL : ClassId} {sb L : Nat} {xs : Nat → Int32} {o : Nat → Nat} {k T B cells slots : Nat} {H : Heap} {locs : List Loc} {ls : Array Slot} {x v : Nat → Nat → Nat} {V : Nat → Nat → Nat → Nat} {q9 r9 w0 f0 n0 s0 t : Nat} (C : ya_L p l s m args c D cI cR cS cL sb L xs) (h : ya_St s D o cI cR cS x v V B H locs) (hB : B < 2 ^ 26) (hc : cells ≤ 602736) (hsl : slots ≤ 7292974) (hr : r9 < 4) (hq : q9 < 26) (hn2 : n0 < 2 ^ 30) (hf2 : f0 < 2 ^ 29) (hw2 : w0 < 2 ^ 29) (hs2 : s0 ≤ 6) (ht : t = 4294967293 ∨ (t < 2 ^ 31 ∧ (18 ≤ q9 → t < 100 ∨ s_sum v 6 + s_sum v 7 = f0 + w0 + 1))) (hl : lv_has ls 13 [(11, .int (nI t)), (10, .int (nI r9)), (9, .int (nI q9)), (8, .int (nI w0)), (7, .int (nI f0)), (6, .int (nI n0)), (5, .int (nI s0)), (4, .int (nI k)), (2, .int (nI 1)), (3, .int (nI T)), (1, .ref (o 0)), (0, .ref sb)]) (K : ∀ ls, lv_has ls 13 [(11, .int (nI t)), (10, .int (nI r9)), (9, .int (nI q9)), (8, .int (nI w0)), (7, .int (nI f0)), (6, .int (nI n0)), (5, .int (nI s0)), (4, .int (nI k)), (2, .int (nI 1)), (3, .int (nI T)), (1, .ref (o 0)), (0, .ref sb)] → W p l e room_1 s m args below meth c H locs cells slots Q (F0 m 226 ls [.int (nI 1)])) : W p l e room_1 s m args below meth c H locs cells slots Q (F0 m 186 ls []) := by
  have C0 := C
  have h0 := h
  obtain ⟨hx, hb, hml, hown, hts, hK, hfl, hX, hG⟩ := C
  obtain ⟨hP, hD, hS, G⟩ := h
  have hN := hG.1
  have hI := G.2.2.1
  have hSI := hI.1
  have hb28 : B < 2 ^ 28 := by omega
  have hn0 : v 0 0 < 2 ^ 29 := by have := hSI.1.1; omega
  have hx4 := G.2.1
  have hA : ∀ q : Nat, s.heap.size ≤ q → z_A s q := fun _ h => h
  have hS7 := s_sum_le hSI (Or.inr rfl)
  have hS6 := s_sum_le hSI (Or.inl rfl)
  by_cases hq18 : q9 < 18
  · skip
    refine lv_iload hx hb dL_law_186 (lv_at hl 2 rfl) ?_
    refine o_bipush (k := 18) hx hb dL_law_188 (by decide) ?_
    refine o_icmp_lt (tgt := 221) hx hb dL_law_190 (by decide) (by omega) (Nat.le_of_ble_eq_true rfl) (fun _ => ?_) (fun z => absurd z (by omega))
    refine o_const (k := 1) hx hb dL_law_221 (by decide) ?_
    refine lv_goto (tgt := 226) hx hb dL_law_222 (by decide) ?_
    exact K ls hl
  · rcases ht with rfl | ⟨ht, hs⟩
    · skip
      refine lv_iload hx hb dL_law_186 (lv_at hl 2 rfl) ?_
      refine o_bipush (k := 18) hx hb dL_law_188 (by decide) ?_
      refine o_icmp_lt (tgt := 221) hx hb dL_law_190 (by decide) (by omega) (Nat.le_of_ble_eq_true rfl) (fun z => absurd z (by omega)) (fun _ => ?_)
      refine lv_iload hx hb dL_law_193 (lv_at hl 0 rfl) ?_
      refine o_bipush (k := 100) hx hb dL_law_195 (by decide) ?_
      refine ya_icmp_lt_neg (tgt := 221) hx hb dL_law_197 (by decide) (by decide) (by decide) (Nat.le_of_ble_eq_true rfl) ?_
      refine o_const (k := 1) hx hb dL_law_221 (by decide) ?_
      refine lv_goto (tgt := 226) hx hb dL_law_222 (by decide) ?_
      exact K ls hl
    · by_cases ht1 : t < 100
      · skip
        refine lv_iload hx hb dL_law_186 (lv_at hl 2 rfl) ?_
        refine o_bipush (k := 18) hx hb dL_law_188 (by decide) ?_
        refine o_icmp_lt (tgt := 221) hx hb dL_law_190 (by decide) (by omega) (Nat.le_of_ble_eq_true rfl) (fun z => absurd z (by omega)) (fun _ => ?_)
        refine lv_iload hx hb dL_law_193 (lv_at hl 0 rfl) ?_
        refine o_bipush (k := 100) hx hb dL_law_195 (by decide) ?_
        refine o_icmp_lt (tgt := 221) hx hb dL_law_197 (by decide) (by omega) (Nat.le_of_ble_eq_true rfl) (fun _ => ?_) (fun z => absurd z (by omega))
        refine o_const (k := 1) hx hb dL_law_221 (by decide) ?_
        refine lv_goto (tgt := 226) hx hb dL_law_222 (by decide) ?_
        exact K ls hl
      · have hs := hs (by omega)
        refine lv_iload hx hb dL_law_186 (lv_at hl 2 rfl) ?_
        refine o_bipush (k := 18) hx hb dL_law_188 (by decide) ?_
        refine o_icmp_lt (tgt := 221) hx hb dL_law_190 (by decide) (by omega) (Nat.le_of_ble_eq_true rfl) (fun z => absurd z (by omega)) (fun _ => ?_)
        refine lv_iload hx hb dL_law_193 (lv_at hl 0 rfl) ?_
        refine o_bipush (k := 100) hx hb dL_law_195 (by decide) ?_
        refine o_icmp_lt (tgt := 221) hx hb dL_law_197 (by decide) (by omega) (Nat.le_of_ble_eq_true rfl) (fun z => absurd z (by omega)) (fun _ => ?_)
        refine lv_aload_n hx hb dL_law_200 rfl (lv_at hl 10 rfl) ?_
        refine o_const (k := 4) hx hb dL_law_201 (by decide) ?_
        refine o_ri (va_runV (As := [.int (nI 4)]) (rest := []) ⟨hx, hb, hml, hown, hts⟩ (k_X4_count l D cI cR cS cL o x v (wV o cI cR V) B 4 hSI hb28 (by omega)) (cwV 1 hts gL_law_X4_count rfl rfl rfl (by decide +kernel) ⟨Nat.le_of_ble_eq_true rfl, Nat.le_of_ble_eq_true rfl⟩) (o_v (o_pR hK hN hP) (va_recv hK hP (ci := 4) (q0 := 0) rfl rfl)) rfl rfl hl.1 rfl (lv_room (Nat.le_of_ble_eq_true rfl)) dL_law_202 ⟨show cells + 0 ≤ 602736 by omega, show slots + 0 ≤ 7292974 by omega⟩) (fun r1 e1 => ?_)
        have e1 : r1 = nI (c_cnt v (x 0 4) 4) := e1
        subst e1
        refine o_ti (show nI (c_cnt v (x 0 4) 4) = nI (s_sum v 6) from congrArg nI rfl) ?_
        refine lv_aload_n hx hb dL_law_205 rfl (lv_at hl 10 rfl) ?_
        refine o_const (k := 5) hx hb dL_law_206 (by decide) ?_
        refine o_ri (va_runV (As := [.int (nI 5)]) (rest := [.int (nI (s_sum v 6))]) ⟨hx, hb, hml, hown, hts⟩ (k_X4_count l D cI cR cS cL o x v (wV o cI cR V) B 5 hSI hb28 (by omega)) (cwV 1 hts gL_law_X4_count rfl rfl rfl (by decide +kernel) ⟨Nat.le_of_ble_eq_true rfl, Nat.le_of_ble_eq_true rfl⟩) (o_v (o_pR hK hN hP) (va_recv hK hP (ci := 4) (q0 := 0) rfl rfl)) rfl rfl hl.1 rfl (lv_room (Nat.le_of_ble_eq_true rfl)) dL_law_207 ⟨show cells + 0 ≤ 602736 by omega, show slots + 0 ≤ 7292974 by omega⟩) (fun r1 e1 => ?_)
        have e1 : r1 = nI (c_cnt v (x 0 4) 5) := e1
        subst e1
        refine o_ti (show nI (c_cnt v (x 0 4) 5) = nI (s_sum v 7) from congrArg nI rfl) ?_
        refine o_iadd (a := (s_sum v 6)) (b := (s_sum v 7)) (k := ((s_sum v 6) + (s_sum v 7))) hx hb dL_law_210 rfl ?_
        refine lv_iload hx hb dL_law_211 (lv_at hl 4 rfl) ?_
        refine lv_iload hx hb dL_law_213 (lv_at hl 3 rfl) ?_
        refine o_iadd (a := f0) (b := w0) (k := (f0 + w0)) hx hb dL_law_215 rfl ?_
        refine o_const (k := 1) hx hb dL_law_216 (by decide) ?_
        refine o_iadd (a := (f0 + w0)) (b := 1) (k := (f0 + w0 + 1)) hx hb dL_law_217 rfl ?_
        refine o_icmp_ne (tgt := 225) hx hb dL_law_218 (by decide) (by omega) (by omega) (fun z => absurd z (by omega)) (fun _ => ?_)
        refine o_const (k := 1) hx hb dL_law_221 (by decide) ?_
        refine lv_goto (tgt := 226) hx hb dL_law_222 (by decide) ?_
        exact K ls hl
set_option maxHeartbeats 4000000 in
set_option maxRecDepth 100000 in
theorem ya_165 {p : Program} {l : Launch} {e : Env} {s : State} {m : MethodId} {args : Array Value} {below : List Frame} {meth : Method} {c : Code} {Q : State → Prop} {D : va_G} {cI cR cS cL : ClassId} {sb L : Nat} {xs : Nat → Int32} {o : Nat → Nat} {k T B cells slots : Nat} {H : Heap} {locs : List Loc} {ls : Array Slot} {x v : Nat → Nat → Nat} {V : Nat → Nat → Nat → Nat} {q9 r9 w0 f0 n0 s0 t : Nat} (C : ya_L p l s m args c D cI cR cS cL sb L xs) (h : ya_St s D o cI cR cS x v V B H locs) (hB : B < 2 ^ 26) (hc : cells ≤ 602736) (hsl : slots ≤ 7292974) (hr : r9 < 4) (hq : q9 < 26) (hn2 : n0 < 2 ^ 30) (hf2 : f0 < 2 ^ 29) (hw2 : w0 < 2 ^ 29) (hs2 : s0 ≤ 6) (hn : q9 = 17 ∨ n0 ≤ v 0 0) (hl : lv_has ls 13 [(2, .int (nI 1)), (11, .int (nI t)), (10, .int (nI r9)), (9, .int (nI q9)), (8, .int (nI w0)), (7, .int (nI f0)), (6, .int (nI n0)), (5, .int (nI s0)), (4, .int (nI k)), (3, .int (nI T)), (1, .ref (o 0)), (0, .ref sb)]) (K : ∀ ls, lv_has ls 13 [(11, .int (nI t)), (10, .int (nI r9)), (9, .int (nI q9)), (8, .int (nI w0)), (7, .int (nI f0)), (6, .int (nI n0)), (5, .int (nI s0)), (4, .int (nI k)), (2, .int (nI 1)), (3, .int (nI T)), (1, .ref (o 0)), (0, .ref sb)] → W p l e room_1 s m args below meth c H locs cells slots Q (F0 m 186 ls [])) : W p l e room_1 s m args below meth c H locs cells slots Q (F0 m 165 ls []) := by
  have C0 := C
  have h0 := h
  obtain ⟨hx, hb, hml, hown, hts, hK, hfl, hX, hG⟩ := C
  obtain ⟨hP, hD, hS, G⟩ := h
  have hN := hG.1
  have hI := G.2.2.1
  have hSI := hI.1
  have hb28 : B < 2 ^ 28 := by omega
  have hn0 : v 0 0 < 2 ^ 29 := by have := hSI.1.1; omega
  have hx4 := G.2.1
  have hA : ∀ q : Nat, s.heap.size ≤ q → z_A s q := fun _ h => h
  by_cases hq17 : q9 = 17
  · skip
    refine lv_iload_n hx hb dL_law_165 rfl (lv_at hl 0 rfl) ?_
    refine o_if_eq (tgt := 225) hx hb dL_law_166 (by decide) (Nat.le_of_ble_eq_true rfl) (fun z => absurd z (by decide)) (fun _ => ?_)
    refine lv_iload hx hb dL_law_169 (lv_at hl 3 rfl) ?_
    refine o_bipush (k := 17) hx hb dL_law_171 (by decide) ?_
    refine o_icmp_eq (tgt := 186) hx hb dL_law_173 (by decide) (by omega) (Nat.le_of_ble_eq_true rfl) (fun _ => ?_) (fun z => absurd z (by omega))
    exact K ls (lv_sub hl [1, 2, 3, 4, 5, 6, 7, 8, 0, 9, 10, 11] rfl)
  · have hn := hn.resolve_left hq17
    refine lv_iload_n hx hb dL_law_165 rfl (lv_at hl 0 rfl) ?_
    refine o_if_eq (tgt := 225) hx hb dL_law_166 (by decide) (Nat.le_of_ble_eq_true rfl) (fun z => absurd z (by decide)) (fun _ => ?_)
    refine lv_iload hx hb dL_law_169 (lv_at hl 3 rfl) ?_
    refine o_bipush (k := 17) hx hb dL_law_171 (by decide) ?_
    refine o_icmp_eq (tgt := 186) hx hb dL_law_173 (by decide) (by omega) (Nat.le_of_ble_eq_true rfl) (fun z => absurd z (by omega)) (fun _ => ?_)
    refine lv_aload_n hx hb dL_law_176 rfl (lv_at hl 10 rfl) ?_
    refine o_const (k := 0) hx hb dL_law_177 (by decide) ?_
    refine o_ri (va_runV (As := [.int (nI 0)]) (rest := []) ⟨hx, hb, hml, hown, hts⟩ (k_X4_count l D cI cR cS cL o x v (wV o cI cR V) B 0 hSI hb28 (by omega)) (cwV 1 hts gL_law_X4_count rfl rfl rfl (by decide +kernel) ⟨Nat.le_of_ble_eq_true rfl, Nat.le_of_ble_eq_true rfl⟩) (o_v (o_pR hK hN hP) (va_recv hK hP (ci := 4) (q0 := 0) rfl rfl)) rfl rfl hl.1 rfl (lv_room (Nat.le_of_ble_eq_true rfl)) dL_law_178 ⟨show cells + 0 ≤ 602736 by omega, show slots + 0 ≤ 7292974 by omega⟩) (fun r1 e1 => ?_)
    have e1 : r1 = nI (c_cnt v (x 0 4) 0) := e1
    subst e1
    refine o_ti (show nI (c_cnt v (x 0 4) 0) = nI (v 0 0) from congrArg nI rfl) ?_
    refine lv_iload hx hb dL_law_181 (lv_at hl 6 rfl) ?_
    refine o_icmp_lt (tgt := 225) hx hb dL_law_183 (by decide) (by omega) (by omega) (fun z => absurd z (by omega)) (fun _ => ?_)
    exact K ls (lv_sub hl [1, 2, 3, 4, 5, 6, 7, 8, 0, 9, 10, 11] rfl)
set_option maxHeartbeats 4000000 in
set_option maxRecDepth 100000 in
theorem ya_113 {p : Program} {l : Launch} {e : Env} {s : State} {m : MethodId} {args : Array Value} {below : List Frame} {meth : Method} {c : Code} {Q : State → Prop} {D : va_G} {cI cR cS cL : ClassId} {sb L : Nat} {xs : Nat → Int32} {o : Nat → Nat} {k T B cells slots : Nat} {H : Heap} {locs : List Loc} {ls : Array Slot} {x v : Nat → Nat → Nat} {V : Nat → Nat → Nat → Nat} {q9 r9 t : Nat} {x0 v0 : Nat → Nat → Nat} (C : ya_L p l s m args c D cI cR cS cL sb L xs) (h : ya_St s D o cI cR cS x v V B H locs) (hB : B < 2 ^ 26) (hc : cells ≤ 602736) (hsl : slots ≤ 7292974) (hr : r9 < 4) (hq : q9 < 26) (hI0 : qa_I B v0) (hx0 : x0 0 4 ≤ 6)
    (hT : (t = 4294967293 ∧ x 0 = x0 0 ∧ v = v0) ∨ (t < 2 ^ 31 ∧ (q9 = 17 ∨ v0 0 0 ≤ v 0 0) ∧ (18 ≤ q9 → (t < 100 ∨ ((t = 100 ∨ t = 101) ∧ s_sum v 6 + s_sum v 7 = s_sum v0 6 + s_sum v0 7 + 1)) ∧ (t = 101 → ¬ v (5 + 3 * r9) 0 = 0 → c_rdr v r9 6 = v 0 0 / 2 ∧ ∀ f, f < 5 → c_has v r9 f = v 1 f))))
    (hl : lv_has ls 13 [(11, .int (nI t)), (10, .int (nI r9)), (9, .int (nI q9)), (8, .int (nI (s_sum v0 7))), (7, .int (nI (s_sum v0 6))), (6, .int (nI (v0 0 0))), (5, .int (nI (x0 0 4))), (4, .int (nI k)), (2, .int (nI 1)), (3, .int (nI T)), (1, .ref (o 0)), (0, .ref sb)]) (K : ∀ (H : Heap) (locs : List Loc) (ls : Array Slot) (x : Nat → Nat → Nat), ya_St s D o cI cR cS x v V B H locs → lv_has ls 13 [(4, .int (nI k)), (2, .int (nI 1)), (3, .int (nI T)), (1, .ref (o 0)), (0, .ref sb)] → W p l e room_1 s m args below meth c H locs cells slots Q (F0 m 340 ls [])) : W p l e room_1 s m args below meth c H locs cells slots Q (F0 m 113 ls []) := by
  have C0 := C
  have h0 := h
  obtain ⟨hx, hb, hml, hown, hts, hK, hfl, hX, hG⟩ := C
  obtain ⟨hP, hD, hS, G⟩ := h
  have hN := hG.1
  have hI := G.2.2.1
  have hSI := hI.1
  have hb28 : B < 2 ^ 28 := by omega
  have hn0 : v 0 0 < 2 ^ 29 := by have := hSI.1.1; omega
  have hx4 := G.2.1
  have hA : ∀ q : Nat, s.heap.size ≤ q → z_A s q := fun _ h => h
  have hJ7 := s_sum_le hI0.1 (Or.inr rfl)
  have hJ6 := s_sum_le hI0.1 (Or.inl rfl)
  have hJ0 : v0 0 0 < 2 ^ 29 := by have := hI0.1.1.1; omega
  have K323 : ∀ ls, lv_has ls 13 [(4, .int (nI k)), (2, .int (nI 1)), (3, .int (nI T)), (1, .ref (o 0)), (0, .ref sb)] → W p l e room_1 s m args below meth c H locs cells slots Q (F0 m 323 ls []) := fun ls hl => ya_323 C0 h0 hB hc hsl hl K
  rcases hT with ⟨ht, hx9, hv9⟩ | ⟨ht, hn, h18⟩
  · subst ht
    subst hv9
    refine lv_iload hx hb dL_law_113 (lv_at hl 0 rfl) ?_
    refine ya_if_ge_neg (tgt := 159) hx hb dL_law_115 (by decide) (by decide) (by decide) ?_
    refine lv_aload_n hx hb dL_law_118 rfl (lv_at hl 10 rfl) ?_
    refine o_bipush (k := 8) hx hb dL_law_119 (by decide) ?_
    refine o_ri (va_runV (As := [.int (nI 8)]) (rest := []) ⟨hx, hb, hml, hown, hts⟩ (k_X4_count l D cI cR cS cL o x v (wV o cI cR V) B 8 hSI hb28 (by omega)) (cwV 1 hts gL_law_X4_count rfl rfl rfl (by decide +kernel) ⟨Nat.le_of_ble_eq_true rfl, Nat.le_of_ble_eq_true rfl⟩) (o_v (o_pR hK hN hP) (va_recv hK hP (ci := 4) (q0 := 0) rfl rfl)) rfl rfl hl.1 rfl (lv_room (Nat.le_of_ble_eq_true rfl)) dL_law_121 ⟨show cells + 0 ≤ 602736 by omega, show slots + 0 ≤ 7292974 by omega⟩) (fun r1 e1 => ?_)
    have e1 : r1 = nI (c_cnt v (x 0 4) 8) := e1
    subst e1
    refine o_ti (show nI (c_cnt v (x 0 4) 8) = nI (x0 0 4) from congrArg nI (show x 0 4 = x0 0 4 by rw [hx9])) ?_
    refine lv_iload hx hb dL_law_124 (lv_at hl 6 rfl) ?_
    refine o_icmp_ne (tgt := 163) hx hb dL_law_126 (by decide) (by omega) (by omega) (fun z => absurd z (by omega)) (fun _ => ?_)
    refine lv_aload_n hx hb dL_law_129 rfl (lv_at hl 10 rfl) ?_
    refine o_const (k := 0) hx hb dL_law_130 (by decide) ?_
    refine o_ri (va_runV (As := [.int (nI 0)]) (rest := []) ⟨hx, hb, hml, hown, hts⟩ (k_X4_count l D cI cR cS cL o x v (wV o cI cR V) B 0 hSI hb28 (by omega)) (cwV 1 hts gL_law_X4_count rfl rfl rfl (by decide +kernel) ⟨Nat.le_of_ble_eq_true rfl, Nat.le_of_ble_eq_true rfl⟩) (o_v (o_pR hK hN hP) (va_recv hK hP (ci := 4) (q0 := 0) rfl rfl)) rfl rfl hl.1 rfl (lv_room (Nat.le_of_ble_eq_true rfl)) dL_law_131 ⟨show cells + 0 ≤ 602736 by omega, show slots + 0 ≤ 7292974 by omega⟩) (fun r1 e1 => ?_)
    have e1 : r1 = nI (c_cnt v (x 0 4) 0) := e1
    subst e1
    refine o_ti (show nI (c_cnt v (x 0 4) 0) = nI (v 0 0) from congrArg nI rfl) ?_
    refine lv_iload hx hb dL_law_134 (lv_at hl 5 rfl) ?_
    refine o_icmp_ne (tgt := 163) hx hb dL_law_136 (by decide) (by omega) (by omega) (fun z => absurd z (by omega)) (fun _ => ?_)
    refine lv_aload_n hx hb dL_law_139 rfl (lv_at hl 10 rfl) ?_
    refine o_const (k := 4) hx hb dL_law_140 (by decide) ?_
    refine o_ri (va_runV (As := [.int (nI 4)]) (rest := []) ⟨hx, hb, hml, hown, hts⟩ (k_X4_count l D cI cR cS cL o x v (wV o cI cR V) B 4 hSI hb28 (by omega)) (cwV 1 hts gL_law_X4_count rfl rfl rfl (by decide +kernel) ⟨Nat.le_of_ble_eq_true rfl, Nat.le_of_ble_eq_true rfl⟩) (o_v (o_pR hK hN hP) (va_recv hK hP (ci := 4) (q0 := 0) rfl rfl)) rfl rfl hl.1 rfl (lv_room (Nat.le_of_ble_eq_true rfl)) dL_law_141 ⟨show cells + 0 ≤ 602736 by omega, show slots + 0 ≤ 7292974 by omega⟩) (fun r1 e1 => ?_)
    have e1 : r1 = nI (c_cnt v (x 0 4) 4) := e1
    subst e1
    refine o_ti (show nI (c_cnt v (x 0 4) 4) = nI (s_sum v 6) from congrArg nI rfl) ?_
    refine lv_iload hx hb dL_law_144 (lv_at hl 4 rfl) ?_
    refine o_icmp_ne (tgt := 163) hx hb dL_law_146 (by decide) (by omega) (by omega) (fun z => absurd z (by omega)) (fun _ => ?_)
    refine lv_aload_n hx hb dL_law_149 rfl (lv_at hl 10 rfl) ?_
    refine o_const (k := 5) hx hb dL_law_150 (by decide) ?_
    refine o_ri (va_runV (As := [.int (nI 5)]) (rest := []) ⟨hx, hb, hml, hown, hts⟩ (k_X4_count l D cI cR cS cL o x v (wV o cI cR V) B 5 hSI hb28 (by omega)) (cwV 1 hts gL_law_X4_count rfl rfl rfl (by decide +kernel) ⟨Nat.le_of_ble_eq_true rfl, Nat.le_of_ble_eq_true rfl⟩) (o_v (o_pR hK hN hP) (va_recv hK hP (ci := 4) (q0 := 0) rfl rfl)) rfl rfl hl.1 rfl (lv_room (Nat.le_of_ble_eq_true rfl)) dL_law_151 ⟨show cells + 0 ≤ 602736 by omega, show slots + 0 ≤ 7292974 by omega⟩) (fun r1 e1 => ?_)
    have e1 : r1 = nI (c_cnt v (x 0 4) 5) := e1
    subst e1
    refine o_ti (show nI (c_cnt v (x 0 4) 5) = nI (s_sum v 7) from congrArg nI rfl) ?_
    refine lv_iload hx hb dL_law_154 (lv_at hl 3 rfl) ?_
    refine o_icmp_ne (tgt := 163) hx hb dL_law_156 (by decide) (by omega) (by omega) (fun z => absurd z (by omega)) (fun _ => ?_)
    refine o_const (k := 1) hx hb dL_law_159 (by decide) ?_
    refine lv_goto (tgt := 164) hx hb dL_law_160 (by decide) ?_
    refine lv_istore_n (lv' := [(2, .int (nI 1)), (11, .int (nI 4294967293)), (10, .int (nI r9)), (9, .int (nI q9)), (8, .int (nI (s_sum v 7))), (7, .int (nI (s_sum v 6))), (6, .int (nI (v 0 0))), (5, .int (nI (x0 0 4))), (4, .int (nI k)), (3, .int (nI T)), (1, .ref (o 0)), (0, .ref sb)]) hx hb dL_law_164 rfl hl (by decide) rfl (fun ls hl => ?_)
    refine ya_165 C0 h0 hB hc hsl hr hq (by omega) (by omega) (by omega) hx0 (Or.inr (Nat.le_refl _)) hl (fun ls hl => ?_)
    refine ya_186 C0 h0 hB hc hsl hr hq (by omega) (by omega) (by omega) hx0 (Or.inl rfl) hl (fun ls hl => ?_)
    exact ya_226 C0 h0 hB hc hsl hr hq (by omega) (by omega) (by omega) hx0 (Or.inl rfl) hl K323
  · skip
    refine lv_iload hx hb dL_law_113 (lv_at hl 0 rfl) ?_
    refine o_if_ge (tgt := 159) hx hb dL_law_115 (by decide) (by omega) ?_
    refine o_const (k := 1) hx hb dL_law_159 (by decide) ?_
    refine lv_goto (tgt := 164) hx hb dL_law_160 (by decide) ?_
    refine lv_istore_n (lv' := [(2, .int (nI 1)), (11, .int (nI t)), (10, .int (nI r9)), (9, .int (nI q9)), (8, .int (nI (s_sum v0 7))), (7, .int (nI (s_sum v0 6))), (6, .int (nI (v0 0 0))), (5, .int (nI (x0 0 4))), (4, .int (nI k)), (3, .int (nI T)), (1, .ref (o 0)), (0, .ref sb)]) hx hb dL_law_164 rfl hl (by decide) rfl (fun ls hl => ?_)
    refine ya_165 C0 h0 hB hc hsl hr hq (by omega) (by omega) (by omega) hx0 hn hl (fun ls hl => ?_)
    refine ya_186 C0 h0 hB hc hsl hr hq (by omega) (by omega) (by omega) hx0 (Or.inr ⟨ht, fun z => (h18 z).1.imp_right fun y => y.2⟩) hl (fun ls hl => ?_)
    exact ya_226 C0 h0 hB hc hsl hr hq (by omega) (by omega) (by omega) hx0 (Or.inr ⟨ht, fun z => (h18 z).2⟩) hl K323
set_option maxHeartbeats 4000000 in
set_option maxRecDepth 100000 in
theorem ya_turn {p : Program} {l : Launch} {e : Env} {s : State} {m : MethodId} {args : Array Value} {below : List Frame} {meth : Method} {c : Code} {Q : State → Prop} {D : va_G} {cI cR cS cL : ClassId} {sb L : Nat} {xs : Nat → Int32} {o : Nat → Nat} {k T B cells slots : Nat} {H : Heap} {locs : List Loc} {ls : Array Slot} {x v : Nat → Nat → Nat} {V : Nat → Nat → Nat → Nat} (C : ya_L p l s m args c D cI cR cS cL sb L xs) (h : ya_St s D o cI cR cS x v V B H locs) (hB : B < 2 ^ 25) (hc : cells + 1 ≤ 602736) (hsl : slots + 6 ≤ 7292974) (hk : k < T) (hT : 2 * T ≤ L) (hl : lv_has ls 13 [(4, .int (nI k)), (2, .int (nI 1)), (3, .int (nI T)), (1, .ref (o 0)), (0, .ref sb)]) (K : ∀ (H : Heap) (locs : List Loc) (ls : Array Slot) (x v : Nat → Nat → Nat) (V : Nat → Nat → Nat → Nat), ya_St s D o cI cR cS x v V (B + 1) H locs → lv_has ls 13 [(4, .int (nI k)), (2, .int (nI 1)), (3, .int (nI T)), (1, .ref (o 0)), (0, .ref sb)] → W p l e room_1 s m args below meth c H locs (cells + 1) (slots + 6) Q (F0 m 340 ls [])) : W p l e room_1 s m args below meth c H locs cells slots Q (F0 m 42 ls []) := by
  have C0 := C
  have h0 := h
  obtain ⟨hx, hb, hml, hown, hts, hK, hfl, hX, hG⟩ := C
  obtain ⟨hP, hD, hS, G⟩ := h
  have hN := hG.1
  have hI := G.2.2.1
  have hSI := hI.1
  have hb28 : B < 2 ^ 28 := by omega
  have hn0 : v 0 0 < 2 ^ 29 := by have := hSI.1.1; omega
  have hx4 := G.2.1
  have hA : ∀ q : Nat, s.heap.size ≤ q → z_A s q := fun _ h => h
  have hL : L ≤ 260 := hX.2.2
  have hsA : ¬ z_A s sb := fun h => absurd hX.2.1 (Nat.not_lt.mpr h)
  have hXH : va_X sb L xs s H := hX.1.kept (hS.2.1 sb hX.2.1 hsA)
  have hsH : sb < H.size := Nat.lt_of_lt_of_le hX.2.1 hS.1
  have hnA : ¬ va_A (wO o cI cR cS x v (wV o cI cR V)) H.size sb := by
    intro z
    rcases z with ⟨j, e, hj⟩ | z
    · exact hsA (hD.2 j _ hj)
    · omega
  refine lv_aload_n hx hb dL_law_42 rfl (lv_at hl 3 rfl) ?_
  refine o_bipush (k := 8) hx hb dL_law_43 (by decide) ?_
  refine o_ri (va_runV (As := [.int (nI 8)]) (rest := []) ⟨hx, hb, hml, hown, hts⟩ (k_X4_count l D cI cR cS cL o x v (wV o cI cR V) B 8 hSI hb28 (by omega)) (cwV 1 hts gL_law_X4_count rfl rfl rfl (by decide +kernel) ⟨Nat.le_of_ble_eq_true rfl, Nat.le_of_ble_eq_true rfl⟩) (o_v (o_pR hK hN hP) (va_recv hK hP (ci := 4) (q0 := 0) rfl rfl)) rfl rfl hl.1 rfl (lv_room (Nat.le_of_ble_eq_true rfl)) dL_law_45 ⟨show cells + 0 ≤ 602736 by omega, show slots + 0 ≤ 7292974 by omega⟩) (fun r1 e1 => ?_)
  have e1 : r1 = nI (c_cnt v (x 0 4) 8) := e1
  subst e1
  refine o_ti (show nI (c_cnt v (x 0 4) 8) = nI (x 0 4) from congrArg nI rfl) ?_
  refine lv_istore (lv' := [(5, .int (nI (x 0 4))), (4, .int (nI k)), (2, .int (nI 1)), (3, .int (nI T)), (1, .ref (o 0)), (0, .ref sb)]) hx hb dL_law_48 hl (by decide) rfl (fun ls hl => ?_)
  refine lv_aload_n hx hb dL_law_50 rfl (lv_at hl 4 rfl) ?_
  refine o_const (k := 0) hx hb dL_law_51 (by decide) ?_
  refine o_ri (va_runV (As := [.int (nI 0)]) (rest := []) ⟨hx, hb, hml, hown, hts⟩ (k_X4_count l D cI cR cS cL o x v (wV o cI cR V) B 0 hSI hb28 (by omega)) (cwV 1 hts gL_law_X4_count rfl rfl rfl (by decide +kernel) ⟨Nat.le_of_ble_eq_true rfl, Nat.le_of_ble_eq_true rfl⟩) (o_v (o_pR hK hN hP) (va_recv hK hP (ci := 4) (q0 := 0) rfl rfl)) rfl rfl hl.1 rfl (lv_room (Nat.le_of_ble_eq_true rfl)) dL_law_52 ⟨show cells + 0 ≤ 602736 by omega, show slots + 0 ≤ 7292974 by omega⟩) (fun r1 e1 => ?_)
  have e1 : r1 = nI (c_cnt v (x 0 4) 0) := e1
  subst e1
  refine o_ti (show nI (c_cnt v (x 0 4) 0) = nI (v 0 0) from congrArg nI rfl) ?_
  refine lv_istore (lv' := [(6, .int (nI (v 0 0))), (5, .int (nI (x 0 4))), (4, .int (nI k)), (2, .int (nI 1)), (3, .int (nI T)), (1, .ref (o 0)), (0, .ref sb)]) hx hb dL_law_55 hl (by decide) rfl (fun ls hl => ?_)
  refine lv_aload_n hx hb dL_law_57 rfl (lv_at hl 5 rfl) ?_
  refine o_const (k := 4) hx hb dL_law_58 (by decide) ?_
  refine o_ri (va_runV (As := [.int (nI 4)]) (rest := []) ⟨hx, hb, hml, hown, hts⟩ (k_X4_count l D cI cR cS cL o x v (wV o cI cR V) B 4 hSI hb28 (by omega)) (cwV 1 hts gL_law_X4_count rfl rfl rfl (by decide +kernel) ⟨Nat.le_of_ble_eq_true rfl, Nat.le_of_ble_eq_true rfl⟩) (o_v (o_pR hK hN hP) (va_recv hK hP (ci := 4) (q0 := 0) rfl rfl)) rfl rfl hl.1 rfl (lv_room (Nat.le_of_ble_eq_true rfl)) dL_law_59 ⟨show cells + 0 ≤ 602736 by omega, show slots + 0 ≤ 7292974 by omega⟩) (fun r1 e1 => ?_)
  have e1 : r1 = nI (c_cnt v (x 0 4) 4) := e1
  subst e1
  refine o_ti (show nI (c_cnt v (x 0 4) 4) = nI (s_sum v 6) from congrArg nI rfl) ?_
  refine lv_istore (lv' := [(7, .int (nI (s_sum v 6))), (6, .int (nI (v 0 0))), (5, .int (nI (x 0 4))), (4, .int (nI k)), (2, .int (nI 1)), (3, .int (nI T)), (1, .ref (o 0)), (0, .ref sb)]) hx hb dL_law_62 hl (by decide) rfl (fun ls hl => ?_)
  refine lv_aload_n hx hb dL_law_64 rfl (lv_at hl 6 rfl) ?_
  refine o_const (k := 5) hx hb dL_law_65 (by decide) ?_
  refine o_ri (va_runV (As := [.int (nI 5)]) (rest := []) ⟨hx, hb, hml, hown, hts⟩ (k_X4_count l D cI cR cS cL o x v (wV o cI cR V) B 5 hSI hb28 (by omega)) (cwV 1 hts gL_law_X4_count rfl rfl rfl (by decide +kernel) ⟨Nat.le_of_ble_eq_true rfl, Nat.le_of_ble_eq_true rfl⟩) (o_v (o_pR hK hN hP) (va_recv hK hP (ci := 4) (q0 := 0) rfl rfl)) rfl rfl hl.1 rfl (lv_room (Nat.le_of_ble_eq_true rfl)) dL_law_66 ⟨show cells + 0 ≤ 602736 by omega, show slots + 0 ≤ 7292974 by omega⟩) (fun r1 e1 => ?_)
  have e1 : r1 = nI (c_cnt v (x 0 4) 5) := e1
  subst e1
  refine o_ti (show nI (c_cnt v (x 0 4) 5) = nI (s_sum v 7) from congrArg nI rfl) ?_
  refine lv_istore (lv' := [(8, .int (nI (s_sum v 7))), (7, .int (nI (s_sum v 6))), (6, .int (nI (v 0 0))), (5, .int (nI (x 0 4))), (4, .int (nI k)), (2, .int (nI 1)), (3, .int (nI T)), (1, .ref (o 0)), (0, .ref sb)]) hx hb dL_law_69 hl (by decide) rfl (fun ls hl => ?_)
  refine lv_aload_n hx hb dL_law_71 rfl (lv_at hl 8 rfl) ?_
  refine o_const (k := 2) hx hb dL_law_72 (by decide) ?_
  refine lv_iload hx hb dL_law_73 (lv_at hl 4 rfl) ?_
  refine o_imul (a := 2) (b := k) (k := (2 * k)) hx hb dL_law_75 rfl ?_
  refine o_ri (va_runS (As := [.ref sb, .int (nI (2 * k))]) (rest := []) ⟨hx, hb, hml, hown, hts⟩ (l_cell l sb L (2 * k) xs (by omega) (by omega)) (va_cwS 2 hts gL_law_L_cell rfl rfl rfl (by decide +kernel) ⟨Nat.le_of_ble_eq_true rfl, Nat.le_of_ble_eq_true rfl⟩) (ya_pR hXH hsH) rfl rfl hl.1 rfl (lv_room (Nat.le_of_ble_eq_true rfl)) dL_law_76 ⟨show cells + 0 ≤ 602736 by omega, show slots + 0 ≤ 7292974 by omega⟩) (fun r1 e1 => ?_)
  have e1 : r1 = xs (2 * k) := e1
  subst e1
  refine o_bipush (k := 26) hx hb dL_law_79 (by decide) ?_
  refine o_ri (va_runS (As := [.int (xs (2 * k)), .int (nI 26)]) (rest := []) ⟨hx, hb, hml, hown, hts⟩ (l_low l (xs (2 * k)) 26 (by decide) (by decide)) (va_cwS 2 hts gL_law_L_low rfl rfl rfl (by decide +kernel) ⟨Nat.le_of_ble_eq_true rfl, Nat.le_of_ble_eq_true rfl⟩) ya_pT rfl rfl hl.1 rfl (lv_room (Nat.le_of_ble_eq_true rfl)) dL_law_81 ⟨show cells + 0 ≤ 602736 by omega, show slots + 0 ≤ 7292974 by omega⟩) (fun r1 e1 => ?_)
  have e1 : r1 = nI (ya_low (xs (2 * k)) 26) := e1
  subst e1
  refine lv_istore (lv' := [(9, .int (nI (ya_low (xs (2 * k)) 26))), (8, .int (nI (s_sum v 7))), (7, .int (nI (s_sum v 6))), (6, .int (nI (v 0 0))), (5, .int (nI (x 0 4))), (4, .int (nI k)), (2, .int (nI 1)), (3, .int (nI T)), (1, .ref (o 0)), (0, .ref sb)]) hx hb dL_law_84 hl (by decide) rfl (fun ls hl => ?_)
  refine lv_aload_n hx hb dL_law_86 rfl (lv_at hl 9 rfl) ?_
  refine o_const (k := 2) hx hb dL_law_87 (by decide) ?_
  refine lv_iload hx hb dL_law_88 (lv_at hl 5 rfl) ?_
  refine o_imul (a := 2) (b := k) (k := (2 * k)) hx hb dL_law_90 rfl ?_
  refine o_const (k := 1) hx hb dL_law_91 (by decide) ?_
  refine o_iadd (a := (2 * k)) (b := 1) (k := (2 * k + 1)) hx hb dL_law_92 rfl ?_
  refine o_ri (va_runS (As := [.ref sb, .int (nI (2 * k + 1))]) (rest := []) ⟨hx, hb, hml, hown, hts⟩ (l_cell l sb L (2 * k + 1) xs (by omega) (by omega)) (va_cwS 2 hts gL_law_L_cell rfl rfl rfl (by decide +kernel) ⟨Nat.le_of_ble_eq_true rfl, Nat.le_of_ble_eq_true rfl⟩) (ya_pR hXH hsH) rfl rfl hl.1 rfl (lv_room (Nat.le_of_ble_eq_true rfl)) dL_law_93 ⟨show cells + 0 ≤ 602736 by omega, show slots + 0 ≤ 7292974 by omega⟩) (fun r1 e1 => ?_)
  have e1 : r1 = xs (2 * k + 1) := e1
  subst e1
  refine o_const (k := 4) hx hb dL_law_96 (by decide) ?_
  refine o_ri (va_runS (As := [.int (xs (2 * k + 1)), .int (nI 4)]) (rest := []) ⟨hx, hb, hml, hown, hts⟩ (l_low l (xs (2 * k + 1)) 4 (by decide) (by decide)) (va_cwS 2 hts gL_law_L_low rfl rfl rfl (by decide +kernel) ⟨Nat.le_of_ble_eq_true rfl, Nat.le_of_ble_eq_true rfl⟩) ya_pT rfl rfl hl.1 rfl (lv_room (Nat.le_of_ble_eq_true rfl)) dL_law_97 ⟨show cells + 0 ≤ 602736 by omega, show slots + 0 ≤ 7292974 by omega⟩) (fun r1 e1 => ?_)
  have e1 : r1 = nI (ya_low (xs (2 * k + 1)) 4) := e1
  subst e1
  refine lv_istore (lv' := [(10, .int (nI (ya_low (xs (2 * k + 1)) 4))), (9, .int (nI (ya_low (xs (2 * k)) 26))), (8, .int (nI (s_sum v 7))), (7, .int (nI (s_sum v 6))), (6, .int (nI (v 0 0))), (5, .int (nI (x 0 4))), (4, .int (nI k)), (2, .int (nI 1)), (3, .int (nI T)), (1, .ref (o 0)), (0, .ref sb)]) hx hb dL_law_100 hl (by decide) rfl (fun ls hl => ?_)
  refine lv_aload_n hx hb dL_law_102 rfl (lv_at hl 9 rfl) ?_
  refine lv_aload_n hx hb dL_law_103 rfl (lv_at hl 10 rfl) ?_
  refine o_const (k := 2) hx hb dL_law_104 (by decide) ?_
  refine lv_iload hx hb dL_law_105 (lv_at hl 6 rfl) ?_
  refine o_imul (a := 2) (b := k) (k := (2 * k)) hx hb dL_law_107 rfl ?_
  refine ya_wi (va_runS (As := [.ref (o 0), .ref sb, .int (nI (2 * k))]) (rest := []) ⟨hx, hb, hml, hown, hts⟩ (l_act l D cI cR cS cL hfl H.size o x v V B sb L (2 * k) xs G (by omega) (by omega) hX.2.2) (va_cwS 3 hts gL_law_L_act rfl rfl rfl (by decide +kernel) ⟨Nat.le_of_ble_eq_true rfl, Nat.le_of_ble_eq_true rfl⟩) (ya_pF hK (hG.kept hS) hP hD (va_free hD hS hA _ (o_rng (wO o cI cR cS x v (wV o cI cR V)))) hXH hsH hnA) rfl rfl hl.1 rfl (lv_room (Nat.le_of_ble_eq_true rfl)) dL_law_108 ⟨show cells + 1 ≤ 602736 by omega, show slots + 6 ≤ 7292974 by omega⟩) hD hS hA (fun _ => rfl) (fun r1 u H locs e1 hP hD hS => ?_)
  obtain ⟨x9, v9, V9⟩ := u
  obtain ⟨t, e1, G9, hT9⟩ := e1
  subst e1
  refine lv_istore (lv' := [(11, .int (nI t)), (10, .int (nI (ya_low (xs (2 * k + 1)) 4))), (9, .int (nI (ya_low (xs (2 * k)) 26))), (8, .int (nI (s_sum v 7))), (7, .int (nI (s_sum v 6))), (6, .int (nI (v 0 0))), (5, .int (nI (x 0 4))), (4, .int (nI k)), (2, .int (nI 1)), (3, .int (nI T)), (1, .ref (o 0)), (0, .ref sb)]) hx hb dL_law_111 hl (by decide) rfl (fun ls hl => ?_)
  exact ya_113 (x0 := x) (v0 := v) C0 ⟨hP, hD, hS, G9⟩ (by omega) (by omega) (by omega) (ya_low_lt (by decide)) (ya_low_lt (by decide)) (qa_up hI (by omega)) hx4 hT9 (lv_sub hl [0, 1, 2, 3, 4, 5, 6, 7, 8, 9, 10, 11] rfl) (fun H locs ls x h hl => K H locs ls x v9 V9 h hl)
set_option maxHeartbeats 4000000 in
set_option maxRecDepth 100000 in
theorem ya_loop {p : Program} {l : Launch} {e : Env} {s : State} {m : MethodId} {args : Array Value} {below : List Frame} {meth : Method} {c : Code} {Q : State → Prop} {D : va_G} {cI cR cS cL : ClassId} {sb L : Nat} {xs : Nat → Int32} {o : Nat → Nat} {T : Nat} (C : ya_L p l s m args c D cI cR cS cL sb L xs) (hT : 2 * T ≤ L) (E : ∀ (H : Heap) (locs : List Loc) (ls : Array Slot) (cells slots : Nat), va_S (z_A s) s.heap H locs → cells ≤ 602736 → slots ≤ 7292974 → lv_has ls 13 [(2, .int (nI 1))] → W p l e room_1 s m args below meth c H locs cells slots Q (F0 m 346 ls [])) : ∀ (f k B cells slots : Nat) (H : Heap) (locs : List Loc) (ls : Array Slot) (x v : Nat → Nat → Nat) (V : Nat → Nat → Nat → Nat), T < k + f → k ≤ T → B + f < 2 ^ 25 → cells + f ≤ 602736 → slots + 6 * f ≤ 7292974 → ya_St s D o cI cR cS x v V B H locs → lv_has ls 13 [(4, .int (nI k)), (2, .int (nI 1)), (3, .int (nI T)), (1, .ref (o 0)), (0, .ref sb)] → W p l e room_1 s m args below meth c H locs cells slots Q (F0 m 32 ls []) := by
  intro f
  have C0 := C
  have hx := C.1
  have hb := C.2.1
  have hL : L ≤ 260 := C.2.2.2.2.2.2.2.1.2.2
  induction f with
  | zero =>
    intro k B cells slots H locs ls x v V h1 h2
    exact absurd h1 (by omega)
  | succ f ih =>
    intro k B cells slots H locs ls x v V h1 h2 h3 h4 h5 h hl
    refine lv_iload hx hb dL_law_32 (lv_at hl 0 rfl) ?_
    refine lv_iload_n hx hb dL_law_34 rfl (lv_at hl 2 rfl) ?_
    refine o_icmp_ge (tgt := 346) hx hb dL_law_35 (by decide) (by omega) (by omega) (fun z => ?_) (fun z => ?_)
    · exact E _ _ _ _ _ h.2.2.1 (by omega) (by omega) (lv_sub hl [1] rfl)
    · refine lv_iload_n hx hb dL_law_38 rfl (lv_at hl 1 rfl) ?_
      refine o_if_eq (tgt := 346) hx hb dL_law_39 (by decide) (Nat.le_of_ble_eq_true rfl) (fun z => absurd z (by decide)) (fun _ => ?_)
      refine ya_turn C0 h (by omega) (by omega) (by omega) z hT hl (fun H locs ls x v V h hl => ?_)
      refine lv_iinc (v := nI (k + 1)) (lv' := [(4, .int (nI (k + 1))), (2, .int (nI 1)), (3, .int (nI T)), (1, .ref (o 0)), (0, .ref sb)]) hx hb dL_law_340 hl (k := 0) rfl (o_inc1 _) (by decide) rfl (fun ls hl => ?_)
      refine lv_goto (tgt := 32) hx hb dL_law_343 (by decide) ?_
      exact ih (k + 1) (B + 1) (cells + 1) (slots + 6) H locs ls x v V (by omega) (by omega) (by omega) (by omega) (by omega) h hl
