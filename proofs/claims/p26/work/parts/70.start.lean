/-! THE LAW'S BEGINNING: the class, new -/
theorem ya_s0 : s_I 0 s_0 := by
  refine ⟨⟨by decide +kernel, by decide +kernel, by decide +kernel, fun c hc => ?_⟩, fun r hr => ?_⟩
  · rcases o_lt3 hc with rfl | rfl | rfl <;> exact Or.inl rfl
  · unfold s_IR
    rcases o_lt4 hr with rfl | rfl | rfl | rfl <;> decide +kernel
theorem ya_i0 : qa_I 0 s_0 := by
  refine ⟨ya_s0, Or.inl ⟨by decide +kernel, by decide +kernel, by decide +kernel, by decide +kernel⟩, ⟨fun f hf => ?_, fun k hk => ?_, fun _ f hf => ?_⟩, fun r hr => ?_, by decide +kernel⟩
  · show (0 : Nat) < 100
    decide
  · show (0 : Nat) < 100
    decide
  · rfl
  · unfold qa_R
    rcases o_lt4 hr with rfl | rfl | rfl | rfl
    · exact ⟨fun z => absurd (by decide +kernel) z, by decide +kernel⟩
    · exact ⟨fun z => absurd (by decide +kernel) z, by decide +kernel⟩
    · exact ⟨fun z => absurd (by decide +kernel) z, by decide +kernel⟩
    · exact ⟨fun z => absurd (by decide +kernel) z, by decide +kernel⟩
theorem ya_G0 : qa_G 0 x_0 s_0 (fun _ => s_0) := ⟨by decide +kernel, by decide +kernel, ya_i0, fun _ _ => ya_i0⟩
set_option maxHeartbeats 8000000 in
set_option maxRecDepth 100000 in
theorem ya_start {p : Program} {l : Launch} {e : Env} {s : State} {m : MethodId} {args : Array Value} {below : List Frame} {meth : Method} {c : Code} {Q : State → Prop} {D : va_G} {cI cR cS cL : ClassId} {sb L : Nat} {xs : Nat → Int32}
    (C : ya_L p l s m args c D cI cR cS cL sb L xs) (hO : o_AO s)
    (E : ∀ (H : Heap) (locs : List Loc) (ls : Array Slot) (cells slots : Nat), va_S (z_A s) s.heap H locs → cells ≤ 602736 → slots ≤ 7292974 → lv_has ls 13 [(2, .int (nI 1))] → W p l e room_1 s m args below meth c H locs cells slots Q (F0 m 346 ls [])) :
    W p l e room_1 s m args below meth c s.heap [] 0 0 Q (entryFrame m ([Value.ref sb] : List Value).toArray 13) := by
  have C0 := C
  obtain ⟨hx, hb, hml, hown, hts, hK, hfl, hX, hG⟩ := C
  have hN := hG.1
  have hA : ∀ q : Nat, s.heap.size ≤ q → z_A s q := fun _ h => h
  have hS : va_S (z_A s) s.heap s.heap [] := va_S.rf
  have hP : va_P D vwCl ([] : va_W) s.heap := fun k q h => by simp at h
  have hD : va_D (z_A s) ([] : va_W) := ⟨fun i j p q h => by simp at h, fun k q h => by simp at h⟩
  have hl := lv_entry ([.ref sb]) (n := 13) (Nat.le_of_ble_eq_true rfl)
  rw [lg_entry_eq]
  generalize (lg_sl ([.ref sb]) ++ List.replicate (13 - (lg_sl ([.ref sb])).length) Slot.unset).toArray = ls at hl ⊢
  have hl : lv_has ls 13 [(0, .ref sb)] := hl
  refine va_new (ci := 4) (fs := [.null, .null, .int (nI 0), .int (nI 0), .null, .null]) (C := RX4) (T := TX4) (N := 6) hx hb hts (fun w h => inlX4 w h) tyX4 tyX4_ok hown (hts (.classLink RL 10 RX4) (List.mem_of_getElem? (i := 0) (by decide +kernel))) (hts (.instantiable RX4 6) (List.mem_of_getElem? (i := 1) (by decide +kernel))) (hts (.initialized RX4) (List.mem_of_getElem? (i := 2) (by decide +kernel))) hK hP hD hS hA rfl (fun j hj => by rcases (show j = 0 ∨ j = 1 ∨ j = 2 ∨ j = 3 ∨ j = 4 ∨ j = 5 by omega) with rfl | rfl | rfl | rfl | rfl | rfl <;> rfl) (Nat.le_of_ble_eq_true rfl) (Nat.le_of_ble_eq_true rfl) dL_law_0 (fun q1 H hP hD hS => ?_)
  have hP : va_P D vwCl ([] ++ [(q1, .inr (4, [.null, .null, .int (nI 0), .int (nI 0), .null, .null]))]) H := hP
  have hD : va_D (z_A s) ([] ++ [(q1, .inr (4, [.null, .null, .int (nI 0), .int (nI 0), .null, .null]))]) := hD
  refine W.widen (k := 1) (n := 6) (Nat.le_of_ble_eq_true rfl) (Nat.le_of_ble_eq_true rfl) ?_
  refine lv_dup hx hb dL_law_3 rfl ?_
  refine o_ctor (w1 := fun u => wO u cI cR cS x_0 s_0 (wV u cI cR (fun _ => s_0))) [] (va_runI (As := []) (rest := [.ref q1]) ⟨hx, hb, hml, hown, hts⟩ (n_X4_init l D cI cR cS cL H.size q1) (cwI 0 hts gL_law_X4_init rfl rfl rfl (hts (.initialized RX4) (List.mem_of_getElem? (i := 2) (by decide +kernel))) (hts (.methodLink RL 93 yX4_init) (List.mem_of_getElem? (i := 3) (by decide +kernel))) (hts (.instanceMethod yX4_init) (List.mem_of_getElem? (i := 4) (by decide +kernel))) rfl (by decide +kernel) ⟨Nat.le_of_ble_eq_true rfl, Nat.le_of_ble_eq_true rfl⟩) (o_pJ (W := [(q1, .inr (4, [.null, .null, .int (nI 0), .int (nI 0), .null, .null]))]) hK hN hO hP hD) rfl rfl hl.1 rfl (lv_room (Nat.le_of_ble_eq_true rfl)) dL_law_4 ⟨Nat.le_of_ble_eq_true rfl, Nat.le_of_ble_eq_true rfl⟩) hP hD hS hA (fun o H locs hu hP8 hD8 hS => ?_)
  have hu : o 0 = q1 := hu
  subst hu
  have hP := hP8
  have hD := hD8
  have hP : va_P D vwCl (wO o cI cR cS x_0 s_0 (wV o cI cR (fun _ => s_0))) H := hP
  have hD : va_D (z_A s) (wO o cI cR cS x_0 s_0 (wV o cI cR (fun _ => s_0))) := hD
  refine W.widen (k := 138) (n := 1369) (Nat.le_of_ble_eq_true rfl) (Nat.le_of_ble_eq_true rfl) ?_
  have hL : L ≤ 260 := hX.2.2
  have hbA : ¬ z_A s sb := fun h => absurd hX.2.1 (Nat.not_lt.mpr h)
  refine lv_astore_n (lv' := [(1, .ref (o 0)), (0, .ref sb)]) hx hb dL_law_7 rfl hl (by decide) rfl (fun ls hl => ?_)
  refine o_const (k := 1) hx hb dL_law_8 (by decide) ?_
  refine lv_istore_n (lv' := [(2, .int (nI 1)), (1, .ref (o 0)), (0, .ref sb)]) hx hb dL_law_9 rfl hl (by decide) rfl (fun ls hl => ?_)
  have J : ∀ T : Nat, 2 * T ≤ L → T ≤ 80 → W p l e room_1 s m args below meth c H locs 138 1369 Q (F0 m 28 ls [.int (nI T)]) := by
    intro T hT h80
    refine lv_istore_n (lv' := [(3, .int (nI T)), (2, .int (nI 1)), (1, .ref (o 0)), (0, .ref sb)]) hx hb dL_law_28 rfl hl (by decide) rfl (fun ls hl => ?_)
    refine o_const (k := 0) hx hb dL_law_29 (by decide) ?_
    refine lv_istore (lv' := [(4, .int (nI 0)), (3, .int (nI T)), (2, .int (nI 1)), (1, .ref (o 0)), (0, .ref sb)]) hx hb dL_law_30 hl (by decide) rfl (fun ls hl => ?_)
    exact ya_loop C0 hT E (T + 1) 0 0 138 1369 _ _ _ _ _ _ (by omega) (by omega) (by omega) (by omega) (by omega) ⟨hP, hD, hS, ya_G0⟩ (lv_sub hl [0, 2, 1, 3, 4] rfl)
  refine lv_aload_n hx hb dL_law_10 rfl (lv_at hl 2 rfl) ?_
  refine va_slen hx hb hX.1 hX.2.1 hbA hS dL_law_11 ?_
  refine o_ti (show Int32.ofNat L = nI L from rfl) ?_
  refine o_const (k := 2) hx hb dL_law_12 (by decide) ?_
  refine o_idiv (a := L) (b := 2) (k := L / 2) hx hb dL_law_13 (by omega) (by decide) (Nat.le_of_ble_eq_true rfl) rfl ?_
  refine o_bipush (k := 80) hx hb dL_law_14 (by decide) ?_
  refine o_icmp_le (tgt := 24) hx hb dL_law_16 (by decide) (by omega) (Nat.le_of_ble_eq_true rfl) (fun z => ?_) (fun z => ?_)
  · refine lv_aload_n hx hb dL_law_24 rfl (lv_at hl 2 rfl) ?_
    refine va_slen hx hb hX.1 hX.2.1 hbA hS dL_law_25 ?_
    refine o_ti (show Int32.ofNat L = nI L from rfl) ?_
    refine o_const (k := 2) hx hb dL_law_26 (by decide) ?_
    refine o_idiv (a := L) (b := 2) (k := L / 2) hx hb dL_law_27 (by omega) (by decide) (Nat.le_of_ble_eq_true rfl) rfl ?_
    exact J (L / 2) (by omega) (by omega)
  · refine o_bipush (k := 80) hx hb dL_law_19 (by decide) ?_
    refine lv_goto (tgt := 28) hx hb dL_law_21 (by decide) ?_
    exact J 80 (by omega) (by omega)
