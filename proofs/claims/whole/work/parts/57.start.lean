/-! THE LAW'S BEGINNING: the class and the reference, both new -/
theorem z_row0 : ∀ k, m_row0 k < 2 ^ 32 := n_up_lt (n_up_lt (n_up_lt (n_up_lt (n_up_lt (n_up_lt (n_up_lt (n_up_lt (n_up_lt (n_up_lt (fun _ => (by decide : (0 : Nat) < 2 ^ 32)) (by decide)) (by decide)) (by decide)) (by decide)) (by decide)) (by decide)) (by decide)) (by decide)) (by decide)) (by decide)
theorem z_row80 {k : Nat} (h : 83 ≤ k) : m_row0 k = 0 := by
  unfold m_row0
  rw [n_up_ne (by omega), n_up_ne (by omega), n_up_ne (by omega), n_up_ne (by omega), n_up_ne (by omega), n_up_ne (by omega), n_up_ne (by omega), n_up_ne (by omega), n_up_ne (by omega), n_up_ne (by omega)]
theorem z_s0 : s_I 0 s_0 := by
  refine ⟨⟨by decide +kernel, by decide +kernel, by decide +kernel, fun c hc => ?_⟩, fun r hr => ?_⟩
  · rcases o_lt3 hc with rfl | rfl | rfl <;> exact Or.inl rfl
  · unfold s_IR
    rcases o_lt4 hr with rfl | rfl | rfl | rfl <;> decide +kernel
theorem z_m0 : m_I 0 m_row0 := by
  refine ⟨⟨by decide +kernel, z_row0, by decide +kernel, by decide +kernel, by decide +kernel⟩, ⟨by decide +kernel, Or.inl (by decide +kernel), fun z => absurd z (by decide +kernel), fun z => absurd z (by decide +kernel), fun c hc => ?_⟩, fun r hr => ?_⟩
  · rcases o_lt3 hc with rfl | rfl | rfl <;> decide +kernel
  · rcases o_lt4 hr with rfl | rfl | rfl | rfl <;> decide +kernel
theorem z_r0 : p_R s_0 m_row0 := by
  refine ⟨by decide +kernel, fun f hf => ?_, fun c hc => ?_, fun c hc => ?_, fun k hk => ?_, fun r hr => ?_⟩
  · rcases o_lt5 hf with rfl | rfl | rfl | rfl | rfl <;> decide +kernel
  · rcases o_lt3 hc with rfl | rfl | rfl <;> decide +kernel
  · rcases o_lt3 hc with rfl | rfl | rfl <;> (unfold p_pl; decide +kernel)
  · rw [z_row80 (by omega)]
    rfl
  · unfold p_RR
    rcases o_lt4 hr with rfl | rfl | rfl | rfl
    · exact ⟨by decide +kernel, fun z => absurd (by decide +kernel) z, fun z => absurd z (by decide +kernel)⟩
    · exact ⟨by decide +kernel, fun z => absurd (by decide +kernel) z, fun z => absurd z (by decide +kernel)⟩
    · exact ⟨by decide +kernel, fun z => absurd (by decide +kernel) z, fun z => absurd z (by decide +kernel)⟩
    · exact ⟨by decide +kernel, fun z => absurd (by decide +kernel) z, fun z => absurd z (by decide +kernel)⟩
theorem z_G0 : p_G 0 x_0 s_0 (fun _ => s_0) m_0 := by
  refine ⟨z_r0, z_s0, z_m0, ⟨⟨rfl, by decide +kernel, rfl, rfl⟩, fun k hk => absurd hk (Nat.not_lt_zero k), fun k => (by decide : (0 : Nat) < 2 ^ 31), fun k => (by decide : (0 : Nat) < 2 ^ 31)⟩, ⟨by decide +kernel, rfl, by decide +kernel⟩, fun k => (by decide : (0 : Nat) < 2 ^ 32), fun j hj => z_s0, fun j hj => absurd hj (Nat.not_lt_zero j)⟩
/-- the class's cells ahead, then the reference's, then the row: the law's own order -/
theorem z_rot {D : va_G} {X Y Z : va_W} {H : Heap} (h : va_P D vwCl ((X ++ Y) ++ Z) H) : va_P D vwCl (Y ++ (Z ++ X)) H := by
  intro k q hk
  have hm : q ∈ Y ++ (Z ++ X) := List.mem_of_getElem? hk
  have hm2 : q ∈ (X ++ Y) ++ Z := by
    simp only [List.mem_append] at hm ⊢
    rcases hm with h | h | h
    · exact Or.inl (Or.inr h)
    · exact Or.inr h
    · exact Or.inl (Or.inl h)
  obtain ⟨j, hj⟩ := List.getElem?_of_mem hm2
  exact h j q hj
theorem z_rot1 {X Y Z : va_W} {k : Nat} {q : Nat × va_E} (hk : (Y ++ (Z ++ X))[k]? = some q) : ((X ++ Y) ++ Z)[if k < Y.length + Z.length then X.length + k else k - (Y.length + Z.length)]? = some q := by
  by_cases h1 : k < Y.length
  · rw [if_pos (by omega), List.append_assoc, List.getElem?_append_right (by omega), Nat.add_sub_cancel_left, List.getElem?_append_left h1]
    rw [List.getElem?_append_left h1] at hk
    exact hk
  · rw [List.getElem?_append_right (by omega)] at hk
    by_cases h2 : k < Y.length + Z.length
    · rw [List.getElem?_append_left (by omega)] at hk
      rw [if_pos h2, List.append_assoc, List.getElem?_append_right (by omega), Nat.add_sub_cancel_left, List.getElem?_append_right (by omega)]
      exact hk
    · rw [List.getElem?_append_right (by omega)] at hk
      have hl := (List.getElem?_eq_some_iff.mp hk).1
      rw [if_neg h2, List.append_assoc, List.getElem?_append_left (by omega)]
      rw [show k - (Y.length + Z.length) = k - Y.length - Z.length by omega]
      exact hk
theorem z_rotD {A : Nat → Prop} {X Y Z : va_W} (h : va_D A ((X ++ Y) ++ Z)) : va_D A (Y ++ (Z ++ X)) := by
  refine ⟨fun i j p q hi hj e => ?_, fun k q hk => h.2 _ q (z_rot1 hk)⟩
  have e1 := h.1 _ _ p q (z_rot1 hi) (z_rot1 hj) e
  have li := (List.getElem?_eq_some_iff.mp hi).1
  have lj := (List.getElem?_eq_some_iff.mp hj).1
  rw [List.length_append, List.length_append] at li lj
  split at e1 <;> split at e1 <;> omega
set_option maxHeartbeats 8000000 in
set_option maxRecDepth 100000 in
theorem z_start {p : Program} {l : Launch} {e : Env} {s : State} {m : MethodId} {args : Array Value} {below : List Frame} {meth : Method} {c : Code} {Q : State → Prop} {D : va_G} {cI cR cS cL : ClassId} {sb L : Nat} {xs : Nat → Int32}
    (C : z_C p l s m args c D cI cR cS cL sb L xs) (hO : o_AO s)
    (E : ∀ (H : Heap) (locs : List Loc) (ls : Array Slot) (cells slots : Nat), va_S (z_A s) s.heap H locs → cells ≤ 601024 → slots ≤ 7293034 → W p l e room_1 s m args below meth c H locs cells slots Q (F0 m 1316 ls [])) :
    W p l e room_1 s m args below meth c s.heap [] 0 0 Q (entryFrame m ([Value.ref sb] : List Value).toArray 9) := by
  have C0 := C
  obtain ⟨hx, hb, hml, hown, hts, hK, hfl, hX, hG⟩ := C
  have hN := hG.1
  have hA : ∀ q : Nat, s.heap.size ≤ q → z_A s q := fun _ h => h
  have hS : va_S (z_A s) s.heap s.heap [] := va_S.rf
  have hP : va_P D vwCl ([] : va_W) s.heap := fun k q h => by simp at h
  have hD : va_D (z_A s) ([] : va_W) := ⟨fun i j p q h => by simp at h, fun k q h => by simp at h⟩
  have hl := lv_entry ([.ref sb]) (n := 9) (Nat.le_of_ble_eq_true rfl)
  rw [lg_entry_eq]
  generalize (lg_sl ([.ref sb]) ++ List.replicate (9 - (lg_sl ([.ref sb])).length) Slot.unset).toArray = ls at hl ⊢
  have hl : lv_has ls 9 [(0, .ref sb)] := hl
  refine va_new (ci := 4) (fs := [.null, .null, .int (nI 0), .int (nI 0), .null, .null]) (C := RX4) (T := TX4) (N := 6) hx hb hts (fun w h => inlX4 w h) tyX4 tyX4_ok hown (hts (.classLink RL 8 RX4) (List.mem_of_getElem? (i := 0) (by decide +kernel))) (hts (.instantiable RX4 6) (List.mem_of_getElem? (i := 1) (by decide +kernel))) (hts (.initialized RX4) (List.mem_of_getElem? (i := 2) (by decide +kernel))) hK hP hD hS hA rfl (fun j hj => by rcases (show j = 0 ∨ j = 1 ∨ j = 2 ∨ j = 3 ∨ j = 4 ∨ j = 5 by omega) with rfl | rfl | rfl | rfl | rfl | rfl <;> rfl) (Nat.le_of_ble_eq_true rfl) (Nat.le_of_ble_eq_true rfl) dL_law_0 (fun q1 H hP hD hS => ?_)
  have hP : va_P D vwCl ([] ++ [(q1, .inr (4, [.null, .null, .int (nI 0), .int (nI 0), .null, .null]))]) H := hP
  have hD : va_D (z_A s) ([] ++ [(q1, .inr (4, [.null, .null, .int (nI 0), .int (nI 0), .null, .null]))]) := hD
  refine W.widen (k := 1) (n := 6) (Nat.le_of_ble_eq_true rfl) (Nat.le_of_ble_eq_true rfl) ?_
  refine lv_dup hx hb dL_law_3 rfl ?_
  refine o_ctor (w1 := fun u => wO u cI cR cS x_0 s_0 (wV u cI cR (fun _ => s_0))) [] (va_runI (As := []) (rest := [.ref q1]) ⟨hx, hb, hml, hown, hts⟩ (n_X4_init l D cI cR cS cL H.size q1) (cwI 0 hts gL_law_X4_init rfl rfl rfl (hts (.initialized RX4) (List.mem_of_getElem? (i := 2) (by decide +kernel))) (hts (.methodLink RL 73 yX4_init) (List.mem_of_getElem? (i := 7) (by decide +kernel))) (hts (.instanceMethod yX4_init) (List.mem_of_getElem? (i := 8) (by decide +kernel))) rfl (by decide +kernel) ⟨Nat.le_of_ble_eq_true rfl, Nat.le_of_ble_eq_true rfl⟩) (o_pJ (W := [(q1, .inr (4, [.null, .null, .int (nI 0), .int (nI 0), .null, .null]))]) hK hN hO hP hD) rfl rfl hl.1 rfl (lv_room (Nat.le_of_ble_eq_true rfl)) dL_law_4 ⟨Nat.le_of_ble_eq_true rfl, Nat.le_of_ble_eq_true rfl⟩) hP hD hS hA (fun o H locs hu hP8 hD8 hS => ?_)
  have hu : o 0 = q1 := hu
  subst hu
  have hP := hP8
  have hD := hD8
  have hP : va_P D vwCl (wO o cI cR cS x_0 s_0 (wV o cI cR (fun _ => s_0))) H := hP
  have hD : va_D (z_A s) (wO o cI cR cS x_0 s_0 (wV o cI cR (fun _ => s_0))) := hD
  refine W.widen (k := 138) (n := 1369) (Nat.le_of_ble_eq_true rfl) (Nat.le_of_ble_eq_true rfl) ?_
  refine lv_astore_n (lv' := [(1, .ref (o 0)), (0, .ref sb)]) hx hb dL_law_7 rfl hl (by decide) rfl (fun ls hl => ?_)
  refine va_new (ci := 5) (fs := [.null, .null, .int (nI 0), .null, .int (nI 0), .int (nI 0), .int (nI 0), .int (nI 0), .null, .int (nI 0)]) (C := RX5) (T := TX5) (N := 10) hx hb hts (fun w h => inlX5 w h) tyX5 tyX5_ok hown (hts (.classLink RL 74 RX5) (List.mem_of_getElem? (i := 3) (by decide +kernel))) (hts (.instantiable RX5 10) (List.mem_of_getElem? (i := 4) (by decide +kernel))) (hts (.initialized RX5) (List.mem_of_getElem? (i := 5) (by decide +kernel))) hK hP hD hS hA rfl (fun j hj => by rcases (show j = 0 ∨ j = 1 ∨ j = 2 ∨ j = 3 ∨ j = 4 ∨ j = 5 ∨ j = 6 ∨ j = 7 ∨ j = 8 ∨ j = 9 by omega) with rfl | rfl | rfl | rfl | rfl | rfl | rfl | rfl | rfl | rfl <;> rfl) (Nat.le_of_ble_eq_true rfl) (Nat.le_of_ble_eq_true rfl) dL_law_8 (fun q2 H hP hD hS => ?_)
  have hP : va_P D vwCl (wO o cI cR cS x_0 s_0 (wV o cI cR (fun _ => s_0)) ++ [(q2, .inr (5, [.null, .null, .int (nI 0), .null, .int (nI 0), .int (nI 0), .int (nI 0), .int (nI 0), .null, .int (nI 0)]))]) H := hP
  have hD : va_D (z_A s) (wO o cI cR cS x_0 s_0 (wV o cI cR (fun _ => s_0)) ++ [(q2, .inr (5, [.null, .null, .int (nI 0), .null, .int (nI 0), .int (nI 0), .int (nI 0), .int (nI 0), .null, .int (nI 0)]))]) := hD
  refine W.widen (k := 139) (n := 1379) (Nat.le_of_ble_eq_true rfl) (Nat.le_of_ble_eq_true rfl) ?_
  refine lv_dup hx hb dL_law_11 rfl ?_
  refine o_ctor (w1 := fun u => wM u cI m_0) (wO o cI cR cS x_0 s_0 (wV o cI cR (fun _ => s_0))) (va_runI (As := []) (rest := [.ref q2]) ⟨hx, hb, hml, hown, hts⟩ (n_X5_init l D cI cR cS cL H.size q2) (cwI 0 hts gL_law_X5_init rfl rfl rfl (hts (.initialized RX5) (List.mem_of_getElem? (i := 5) (by decide +kernel))) (hts (.methodLink RL 76 yX5_init) (List.mem_of_getElem? (i := 56) (by decide +kernel))) (hts (.instanceMethod yX5_init) (List.mem_of_getElem? (i := 57) (by decide +kernel))) rfl (by decide +kernel) ⟨Nat.le_of_ble_eq_true rfl, Nat.le_of_ble_eq_true rfl⟩) (o_pJ hK hN hO (o_PT (pre := wO o cI cR cS x_0 s_0 (wV o cI cR (fun _ => s_0))) (ws := [(q2, .inr (5, [.null, .null, .int (nI 0), .null, .int (nI 0), .int (nI 0), .int (nI 0), .int (nI 0), .null, .int (nI 0)]))]) hP) (o_DT (pre := wO o cI cR cS x_0 s_0 (wV o cI cR (fun _ => s_0))) (ws := [(q2, .inr (5, [.null, .null, .int (nI 0), .null, .int (nI 0), .int (nI 0), .int (nI 0), .int (nI 0), .null, .int (nI 0)]))]) hD)) rfl rfl hl.1 rfl (lv_room (Nat.le_of_ble_eq_true rfl)) dL_law_12 ⟨Nat.le_of_ble_eq_true rfl, Nat.le_of_ble_eq_true rfl⟩) hP hD hS hA (fun q H locs hu hP8 hD8 hS => ?_)
  have hu : q 0 = q2 := hu
  subst hu
  have hP := hP8
  have hD := hD8
  have hP : va_P D vwCl (wO o cI cR cS x_0 s_0 (wV o cI cR (fun _ => s_0)) ++ wM q cI m_0) H := hP
  have hD : va_D (z_A s) (wO o cI cR cS x_0 s_0 (wV o cI cR (fun _ => s_0)) ++ wM q cI m_0) := hD
  refine W.widen (k := 143) (n := 2673) (Nat.le_of_ble_eq_true rfl) (Nat.le_of_ble_eq_true rfl) ?_
  refine lv_astore_n (lv' := [(2, .ref (q 0)), (1, .ref (o 0)), (0, .ref sb)]) hx hb dL_law_15 rfl hl (by decide) rfl (fun ls hl => ?_)
  refine o_const (k := 1) hx hb dL_law_16 (by decide) ?_
  refine va_newa (atype := .long) (ty := .long) (a0 := (1, .inr (.inl (fun _ => 0)))) (N' := 1) hx hb (hts (.arrayClass .long) (List.mem_of_getElem? (i := 6) (by decide +kernel))) rfl hK hP hD hS hA (fun _ => rfl) (by decide) (by decide) (Nat.le_of_ble_eq_true rfl) (Nat.le_of_ble_eq_true rfl) (Nat.le_of_ble_eq_true rfl) dL_law_17 (fun a cA H hKn hP hD hS => ?_)
  obtain rfl : cL = cA := (o_ty hKn (i := 4) (j := 3) rfl rfl).symm
  have hP : va_P D vwCl ((wO o cI cR cS x_0 s_0 (wV o cI cR (fun _ => s_0)) ++ wM q cI m_0) ++ [ol cL a 1 (fun _ => 0)]) H := hP
  have hD : va_D (z_A s) ((wO o cI cR cS x_0 s_0 (wV o cI cR (fun _ => s_0)) ++ wM q cI m_0) ++ [ol cL a 1 (fun _ => 0)]) := hD
  refine W.widen (k := 144) (n := 2674) (Nat.le_of_ble_eq_true rfl) (Nat.le_of_ble_eq_true rfl) ?_
  refine lv_astore_n (lv' := [(3, .ref a), (2, .ref (q 0)), (1, .ref (o 0)), (0, .ref sb)]) hx hb dL_law_19 rfl hl (by decide) rfl (fun ls hl => ?_)
  refine o_const (k := 0) hx hb dL_law_20 (by decide) ?_
  refine lv_istore (lv' := [(4, .int (nI 0)), (3, .ref a), (2, .ref (q 0)), (1, .ref (o 0)), (0, .ref sb)]) hx hb dL_law_21 hl (by decide) rfl (fun ls hl => ?_)
  have hP9 := z_rot hP
  have hD9 := z_rotD hD
  have hl : lv_has ls 9 (z_L 0 sb a o q) := ⟨hl.1, hl.2.1, fun z hz => hl.2.2 z (by simp only [List.mem_cons, List.not_mem_nil, or_false] at hz ⊢; rcases hz with h | h | h | h | h <;> simp [h])⟩
  have hL : L ≤ 1536 := hX.2.2
  exact z_loop C0 E (L + 1) 0 0 144 2674 _ _ _ _ _ _ _ _ (by omega) (by omega) (by omega) (by omega) (by omega) ⟨hP9, hD9, hS, z_G0⟩ hl
