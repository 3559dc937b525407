set_option maxHeartbeats 4000000 in
set_option maxRecDepth 100000 in
theorem l_act (l : Launch) (D : va_G) (cI cR cS cL : ClassId) (hfl : l.stackTraces = false) (sz : Nat) (o : Nat → Nat) (x v : Nat → Nat → Nat) (V : Nat → Nat → Nat → Nat) (b sb L k : Nat) (xs : Nat → Int32) (h : qa_G b x v V) (hb9 : b < 2 ^ 27) (hk : k + 1 < L) (hL : L ≤ 260) : Met l yL_act wsL_act ({ frames := 8, cells := 1, slots := 6, locals := 130 }) (va_Pc [.ref (o 0), .ref sb, .int (nI k)] (ya_F D (o_T cI cR cS cL) (wO o cI cR cS x v (wV o cI cR V)) sz sb L xs)) (va_Qi (fun rz (u : ya_S) => ∃ t, rz = nI t ∧ qa_A b (ya_low (xs k) 26) (ya_low (xs (k + 1)) 4) t x v u.1 u.2.1 u.2.2) (fun (u : ya_S) t => va_P D vwCl (wO o cI cR cS u.1 u.2.1 (wV o cI cR u.2.2)) t.heap) (va_A (wO o cI cR cS x v (wV o cI cR V)) sz)) 1 6 (va_A (wO o cI cR cS x v (wV o cI cR V)) sz) := by
  refine Met.ofW (cc := cL_act) (maxL := 5) (ret := (some .int)) (by decide) rfl ?_
  intro p e s m args below meth cd s₁ B hml hv
  obtain ⟨rfl, ⟨hsz, hP, hK, hD0, hG⟩, hX, hsb, hnA⟩ := hv
  have hx := B.exec
  have hb := B.bytes
  have hrt := B.returns
  have hts := atoms_spec (ws := wsL_act) B.pre
  have hown : s.vm.findClass RL = some m.cls := findClass_of_methodNamed B.named
  have hlocks := B.notSynchronized
  subst hsz
  have hD := hD0.self (sz := s.heap.size)
  generalize hAe : va_A (wO o cI cR cS x v (wV o cI cR V)) s.heap.size = A at hD hG hnA ⊢
  have hA : ∀ q : Nat, s.heap.size ≤ q → A q := fun q h => by rw [← hAe]; exact Or.inr h
  have hS : va_S A s.heap s.heap [] := va_S.rf
  have hN := hG.1
  have hSI := h.2.2.1.1
  have hb28 : b < 2 ^ 28 := by omega
  have hn0 : v 0 0 < 2 ^ 29 := by have := hSI.1.1; omega
  have hq26 := ya_low_lt (a := xs k) (n := 26) (by decide)
  have hr4 := ya_low_lt (a := xs (k + 1)) (n := 4) (by decide)
  have hl := lv_entry ([.ref (o 0), .ref sb, .int (nI k)]) (n := 5) (Nat.le_of_ble_eq_true rfl)
  rw [lg_entry_eq]
  generalize (lg_sl ([.ref (o 0), .ref sb, .int (nI k)]) ++ List.replicate (5 - (lg_sl ([.ref (o 0), .ref sb, .int (nI k)])).length) Slot.unset).toArray = ls at hl ⊢
  have hl : lv_has ls 5 [(0, .ref (o 0)), (1, .ref sb), (2, .int (nI k))] := hl
  refine lv_aload_n hx hb dL_act_0 rfl (lv_at hl 1 rfl) ?_
  refine lv_iload_n hx hb dL_act_1 rfl (lv_at hl 2 rfl) ?_
  refine o_const (k := 1) hx hb dL_act_2 (by decide) ?_
  refine o_iadd (a := k) (b := 1) (k := (k + 1)) hx hb dL_act_3 rfl ?_
  refine o_ri (va_runS (As := [.ref sb, .int (nI (k + 1))]) (rest := []) ⟨hx, hb, hml, hown, hts⟩ (l_cell l sb L (k + 1) xs (by omega) (by omega)) (va_cwS 2 hts gL_act_L_cell rfl rfl rfl (by decide +kernel) ⟨Nat.le_of_ble_eq_true rfl, Nat.le_of_ble_eq_true rfl⟩) (ya_pR hX hsb) rfl rfl hl.1 rfl (lv_room (Nat.le_of_ble_eq_true rfl)) dL_act_4 ⟨Nat.zero_le _, Nat.zero_le _⟩) (fun r1 e1 => ?_)
  have e1 : r1 = xs (k + 1) := e1
  subst e1
  refine lv_istore_n (lv' := [(3, .int (xs (k + 1))), (0, .ref (o 0)), (1, .ref sb), (2, .int (nI k))]) hx hb dL_act_7 rfl hl (by decide) rfl (fun ls hl => ?_)
  refine lv_iload_n hx hb dL_act_8 rfl (lv_at hl 0 rfl) ?_
  refine o_const (k := 4) hx hb dL_act_9 (by decide) ?_
  refine o_ri (va_runS (As := [.int (xs (k + 1)), .int (nI 4)]) (rest := []) ⟨hx, hb, hml, hown, hts⟩ (l_low l (xs (k + 1)) 4 (by decide) (by decide)) (va_cwS 2 hts gL_act_L_low rfl rfl rfl (by decide +kernel) ⟨Nat.le_of_ble_eq_true rfl, Nat.le_of_ble_eq_true rfl⟩) ya_pT rfl rfl hl.1 rfl (lv_room (Nat.le_of_ble_eq_true rfl)) dL_act_10 ⟨Nat.zero_le _, Nat.zero_le _⟩) (fun r1 e1 => ?_)
  have e1 : r1 = nI (ya_low (xs (k + 1)) 4) := e1
  subst e1
  have hlt_10 := ya_low_lt (a := (xs (k + 1))) (n := 4) (by decide)
  refine lv_istore (lv' := [(4, .int (nI (ya_low (xs (k + 1)) 4))), (3, .int (xs (k + 1))), (0, .ref (o 0)), (1, .ref sb), (2, .int (nI k))]) hx hb dL_act_13 hl (by decide) rfl (fun ls hl => ?_)
  refine lv_aload_n hx hb dL_act_15 rfl (lv_at hl 3 rfl) ?_
  refine lv_iload_n hx hb dL_act_16 rfl (lv_at hl 4 rfl) ?_
  refine o_ri (va_runS (As := [.ref sb, .int (nI k)]) (rest := []) ⟨hx, hb, hml, hown, hts⟩ (l_cell l sb L k xs (by omega) (by omega)) (va_cwS 2 hts gL_act_L_cell rfl rfl rfl (by decide +kernel) ⟨Nat.le_of_ble_eq_true rfl, Nat.le_of_ble_eq_true rfl⟩) (ya_pR hX hsb) rfl rfl hl.1 rfl (lv_room (Nat.le_of_ble_eq_true rfl)) dL_act_17 ⟨Nat.zero_le _, Nat.zero_le _⟩) (fun r1 e1 => ?_)
  have e1 : r1 = xs k := e1
  subst e1
  refine o_bipush (k := 26) hx hb dL_act_20 (by decide) ?_
  refine o_ri (va_runS (As := [.int (xs k), .int (nI 26)]) (rest := []) ⟨hx, hb, hml, hown, hts⟩ (l_low l (xs k) 26 (by decide) (by decide)) (va_cwS 2 hts gL_act_L_low rfl rfl rfl (by decide +kernel) ⟨Nat.le_of_ble_eq_true rfl, Nat.le_of_ble_eq_true rfl⟩) ya_pT rfl rfl hl.1 rfl (lv_room (Nat.le_of_ble_eq_true rfl)) dL_act_22 ⟨Nat.zero_le _, Nat.zero_le _⟩) (fun r1 e1 => ?_)
  have e1 : r1 = nI (ya_low (xs k) 26) := e1
  subst e1
  have hlt_22 := ya_low_lt (a := (xs k)) (n := 26) (by decide)
  generalize (ya_low (xs k) 26) = q9 at hq26 ⊢
  generalize (ya_low (xs (k + 1)) 4) = r9 at hr4 hl ⊢
  have K112 : q9 < 17 → W p l e (headSpec wsL_act ({ frames := 8, cells := 1, slots := 6, locals := 130 })).room s m ([.ref (o 0), .ref sb, .int (nI k)] : List Value).toArray below meth cd s.heap [] 0 0 (MQ below (va_Qi (fun rz (u : ya_S) => ∃ t, rz = nI t ∧ qa_A b q9 r9 t x v u.1 u.2.1 u.2.2) (fun (u : ya_S) t => va_P D vwCl (wO o cI cR cS u.1 u.2.1 (wV o cI cR u.2.2)) t.heap) A) ([.ref (o 0), .ref sb, .int (nI k)] : List Value).toArray s 1 6 A) (F0 m 112 ls []) := by
    intro hq
    refine lv_aload_n hx hb dL_act_112 rfl (lv_at hl 2 rfl) ?_
    refine lv_iload_n hx hb dL_act_113 rfl (lv_at hl 1 rfl) ?_
    refine o_const (k := 3) hx hb dL_act_114 (by decide) ?_
    refine o_ri (va_runS (As := [.int (xs (k + 1)), .int (nI 3)]) (rest := [.ref (o 0)]) ⟨hx, hb, hml, hown, hts⟩ (l_low l (xs (k + 1)) 3 (by decide) (by decide)) (va_cwS 2 hts gL_act_L_low rfl rfl rfl (by decide +kernel) ⟨Nat.le_of_ble_eq_true rfl, Nat.le_of_ble_eq_true rfl⟩) ya_pT rfl rfl hl.1 rfl (lv_room (Nat.le_of_ble_eq_true rfl)) dL_act_115 ⟨Nat.zero_le _, Nat.zero_le _⟩) (fun r1 e1 => ?_)
    have e1 : r1 = nI (ya_low (xs (k + 1)) 3) := e1
    subst e1
    have hlt_115 := ya_low_lt (a := (xs (k + 1))) (n := 3) (by decide)
    refine ya_xi (vx_runSX (As := [.ref (o 0), .int (nI (ya_low (xs (k + 1)) 3))]) (rest := []) ⟨hx, hb, hml, hown, hts⟩ (l_come l D cI cR cS cL hfl s.heap.size o x v V b q9 r9 (ya_low (xs (k + 1)) 3) h hb9 (by omega) hq) (vx_cwSW 2 hts gL_act_L_come rfl rfl rfl (by decide +kernel) ⟨Nat.le_of_ble_eq_true rfl, Nat.le_of_ble_eq_true rfl⟩) (o_pF hK hG hP hD (va_free hD hS hA _ (o_rng (wO o cI cR cS x v (wV o cI cR V))))) rfl rfl hl.1 rfl (lv_room (Nat.le_of_ble_eq_true rfl)) dL_act_118 ⟨Nat.le_of_ble_eq_true rfl, Nat.le_of_ble_eq_true rfl⟩) hD hS hA (fun _ => rfl) (fun r1 u H locs e1 hP hD hS => ?_)
    exact W.iret (v := r1) hx hb hrt (fun t ht hW => ⟨⟨r1, u, rfl, e1, by show va_P D vwCl _ t.heap; rw [ht]; exact hP⟩, hS.F ht⟩) hS.2.2 dL_act_121
  have K159 : q9 < 17 → W p l e (headSpec wsL_act ({ frames := 8, cells := 1, slots := 6, locals := 130 })).room s m ([.ref (o 0), .ref sb, .int (nI k)] : List Value).toArray below meth cd s.heap [] 0 0 (MQ below (va_Qi (fun rz (u : ya_S) => ∃ t, rz = nI t ∧ qa_A b q9 r9 t x v u.1 u.2.1 u.2.2) (fun (u : ya_S) t => va_P D vwCl (wO o cI cR cS u.1 u.2.1 (wV o cI cR u.2.2)) t.heap) A) ([.ref (o 0), .ref sb, .int (nI k)] : List Value).toArray s 1 6 A) (F0 m 159 ls []) := by
    intro hq
    refine lv_aload_n hx hb dL_act_159 rfl (lv_at hl 2 rfl) ?_
    refine lv_iload_n hx hb dL_act_160 rfl (lv_at hl 1 rfl) ?_
    refine o_const (k := 5) hx hb dL_act_161 (by decide) ?_
    refine o_ri (va_runS (As := [.int (xs (k + 1)), .int (nI 5)]) (rest := [.ref (o 0)]) ⟨hx, hb, hml, hown, hts⟩ (l_low l (xs (k + 1)) 5 (by decide) (by decide)) (va_cwS 2 hts gL_act_L_low rfl rfl rfl (by decide +kernel) ⟨Nat.le_of_ble_eq_true rfl, Nat.le_of_ble_eq_true rfl⟩) ya_pT rfl rfl hl.1 rfl (lv_room (Nat.le_of_ble_eq_true rfl)) dL_act_162 ⟨Nat.zero_le _, Nat.zero_le _⟩) (fun r1 e1 => ?_)
    have e1 : r1 = nI (ya_low (xs (k + 1)) 5) := e1
    subst e1
    have hlt_162 := ya_low_lt (a := (xs (k + 1))) (n := 5) (by decide)
    refine lv_iload_n hx hb dL_act_165 rfl (lv_at hl 1 rfl) ?_
    refine o_const (k := 3) hx hb dL_act_166 (by decide) ?_
    refine lv_ishr hx hb dL_act_167 ?_
    refine o_bipush (k := 100) hx hb dL_act_168 (by decide) ?_
    refine o_ri (va_runS (As := [.int ((xs (k + 1)) >>> (nI 3 &&& 31)), .int (nI 100)]) (rest := [.int (nI (ya_low (xs (k + 1)) 5)), .ref (o 0)]) ⟨hx, hb, hml, hown, hts⟩ (l_low l ((xs (k + 1)) >>> (nI 3 &&& 31)) 100 (by decide) (by decide)) (va_cwS 2 hts gL_act_L_low rfl rfl rfl (by decide +kernel) ⟨Nat.le_of_ble_eq_true rfl, Nat.le_of_ble_eq_true rfl⟩) ya_pT rfl rfl hl.1 rfl (lv_room (Nat.le_of_ble_eq_true rfl)) dL_act_170 ⟨Nat.zero_le _, Nat.zero_le _⟩) (fun r1 e1 => ?_)
    have e1 : r1 = nI (ya_low ((xs (k + 1)) >>> (nI 3 &&& 31)) 100) := e1
    subst e1
    have hlt_170 := ya_low_lt (a := ((xs (k + 1)) >>> (nI 3 &&& 31))) (n := 100) (by decide)
    refine ya_xi (vx_runSX (As := [.ref (o 0), .int (nI (ya_low (xs (k + 1)) 5)), .int (nI (ya_low ((xs (k + 1)) >>> (nI 3 &&& 31)) 100))]) (rest := []) ⟨hx, hb, hml, hown, hts⟩ (l_chalk l D cI cR cS cL hfl s.heap.size o x v V b q9 r9 (ya_low (xs (k + 1)) 5) (ya_low ((xs (k + 1)) >>> (nI 3 &&& 31)) 100) h hb9 (by omega) (by omega) hq) (vx_cwSW 3 hts gL_act_L_chalk rfl rfl rfl (by decide +kernel) ⟨Nat.le_of_ble_eq_true rfl, Nat.le_of_ble_eq_true rfl⟩) (o_pF hK hG hP hD (va_free hD hS hA _ (o_rng (wO o cI cR cS x v (wV o cI cR V))))) rfl rfl hl.1 rfl (lv_room (Nat.le_of_ble_eq_true rfl)) dL_act_173 ⟨Nat.le_of_ble_eq_true rfl, Nat.le_of_ble_eq_true rfl⟩) hD hS hA (fun _ => rfl) (fun r1 u H locs e1 hP hD hS => ?_)
    exact W.iret (v := r1) hx hb hrt (fun t ht hW => ⟨⟨r1, u, rfl, e1, by show va_P D vwCl _ t.heap; rw [ht]; exact hP⟩, hS.F ht⟩) hS.2.2 dL_act_176
  have K212 : q9 < 17 → W p l e (headSpec wsL_act ({ frames := 8, cells := 1, slots := 6, locals := 130 })).room s m ([.ref (o 0), .ref sb, .int (nI k)] : List Value).toArray below meth cd s.heap [] 0 0 (MQ below (va_Qi (fun rz (u : ya_S) => ∃ t, rz = nI t ∧ qa_A b q9 r9 t x v u.1 u.2.1 u.2.2) (fun (u : ya_S) t => va_P D vwCl (wO o cI cR cS u.1 u.2.1 (wV o cI cR u.2.2)) t.heap) A) ([.ref (o 0), .ref sb, .int (nI k)] : List Value).toArray s 1 6 A) (F0 m 212 ls []) := by
    intro hq
    refine lv_aload_n hx hb dL_act_212 rfl (lv_at hl 2 rfl) ?_
    refine lv_iload hx hb dL_act_213 (lv_at hl 0 rfl) ?_
    refine ya_xi (vx_runSX (As := [.ref (o 0), .int (nI r9)]) (rest := []) ⟨hx, hb, hml, hown, hts⟩ (l_begin l D cI cR cS cL hfl s.heap.size o x v V b q9 r9 r9 h hb9 hr4 hq) (vx_cwSW 2 hts gL_act_L_begin rfl rfl rfl (by decide +kernel) ⟨Nat.le_of_ble_eq_true rfl, Nat.le_of_ble_eq_true rfl⟩) (o_pF hK hG hP hD (va_free hD hS hA _ (o_rng (wO o cI cR cS x v (wV o cI cR V))))) rfl rfl hl.1 rfl (lv_room (Nat.le_of_ble_eq_true rfl)) dL_act_215 ⟨Nat.le_of_ble_eq_true rfl, Nat.le_of_ble_eq_true rfl⟩) hD hS hA (fun _ => rfl) (fun r1 u H locs e1 hP hD hS => ?_)
    exact W.iret (v := r1) hx hb hrt (fun t ht hW => ⟨⟨r1, u, rfl, e1, by show va_P D vwCl _ t.heap; rw [ht]; exact hP⟩, hS.F ht⟩) hS.2.2 dL_act_218
  have K224 : 17 < q9 → W p l e (headSpec wsL_act ({ frames := 8, cells := 1, slots := 6, locals := 130 })).room s m ([.ref (o 0), .ref sb, .int (nI k)] : List Value).toArray below meth cd s.heap [] 0 0 (MQ below (va_Qi (fun rz (u : ya_S) => ∃ t, rz = nI t ∧ qa_A b q9 r9 t x v u.1 u.2.1 u.2.2) (fun (u : ya_S) t => va_P D vwCl (wO o cI cR cS u.1 u.2.1 (wV o cI cR u.2.2)) t.heap) A) ([.ref (o 0), .ref sb, .int (nI k)] : List Value).toArray s 1 6 A) (F0 m 224 ls []) := by
    intro hq
    refine lv_aload_n hx hb dL_act_224 rfl (lv_at hl 2 rfl) ?_
    refine lv_iload hx hb dL_act_225 (lv_at hl 0 rfl) ?_
    refine ya_xi (vx_runSX (As := [.ref (o 0), .int (nI r9)]) (rest := []) ⟨hx, hb, hml, hown, hts⟩ (l_look l D cI cR cS cL hfl s.heap.size o x v V b q9 r9 h hb9 hr4) (vx_cwSW 2 hts gL_act_L_look rfl rfl rfl (by decide +kernel) ⟨Nat.le_of_ble_eq_true rfl, Nat.le_of_ble_eq_true rfl⟩) (o_pF hK hG hP hD (va_free hD hS hA _ (o_rng (wO o cI cR cS x v (wV o cI cR V))))) rfl rfl hl.1 rfl (lv_room (Nat.le_of_ble_eq_true rfl)) dL_act_227 ⟨Nat.le_of_ble_eq_true rfl, Nat.le_of_ble_eq_true rfl⟩) hD hS hA (fun _ => rfl) (fun r1 u H locs e1 hP hD hS => ?_)
    exact W.iret (v := r1) hx hb hrt (fun t ht hW => ⟨⟨r1, u, rfl, e1, by show va_P D vwCl _ t.heap; rw [ht]; exact hP⟩, hS.F ht⟩) hS.2.2 dL_act_230
  have K219 : q9 = 17 → W p l e (headSpec wsL_act ({ frames := 8, cells := 1, slots := 6, locals := 130 })).room s m ([.ref (o 0), .ref sb, .int (nI k)] : List Value).toArray below meth cd s.heap [] 0 0 (MQ below (va_Qi (fun rz (u : ya_S) => ∃ t, rz = nI t ∧ qa_A b q9 r9 t x v u.1 u.2.1 u.2.2) (fun (u : ya_S) t => va_P D vwCl (wO o cI cR cS u.1 u.2.1 (wV o cI cR u.2.2)) t.heap) A) ([.ref (o 0), .ref sb, .int (nI k)] : List Value).toArray s 1 6 A) (F0 m 219 ls []) := by
    intro hq
    subst hq
    refine lv_aload_n hx hb dL_act_219 rfl (lv_at hl 2 rfl) ?_
    refine ya_xi (vx_runSX (As := [.ref (o 0)]) (rest := []) ⟨hx, hb, hml, hown, hts⟩ (l_undo l D cI cR cS cL hfl s.heap.size o x v V b r9  h hb9 ) (vx_cwSW 1 hts gL_act_L_undo rfl rfl rfl (by decide +kernel) ⟨Nat.le_of_ble_eq_true rfl, Nat.le_of_ble_eq_true rfl⟩) (o_pF hK hG hP hD (va_free hD hS hA _ (o_rng (wO o cI cR cS x v (wV o cI cR V))))) rfl rfl hl.1 rfl (lv_room (Nat.le_of_ble_eq_true rfl)) dL_act_220 ⟨Nat.le_of_ble_eq_true rfl, Nat.le_of_ble_eq_true rfl⟩) hD hS hA (fun _ => rfl) (fun r1 u H locs e1 hP hD hS => ?_)
    exact W.iret (v := r1) hx hb hrt (fun t ht hW => ⟨⟨r1, u, rfl, e1, by show va_P D vwCl _ t.heap; rw [ht]; exact hP⟩, hS.F ht⟩) hS.2.2 dL_act_223
  have K177 : q9 < 17 → W p l e (headSpec wsL_act ({ frames := 8, cells := 1, slots := 6, locals := 130 })).room s m ([.ref (o 0), .ref sb, .int (nI k)] : List Value).toArray below meth cd s.heap [] 0 0 (MQ below (va_Qi (fun rz (u : ya_S) => ∃ t, rz = nI t ∧ qa_A b q9 r9 t x v u.1 u.2.1 u.2.2) (fun (u : ya_S) t => va_P D vwCl (wO o cI cR cS u.1 u.2.1 (wV o cI cR u.2.2)) t.heap) A) ([.ref (o 0), .ref sb, .int (nI k)] : List Value).toArray s 1 6 A) (F0 m 177 ls []) := by
    intro hq
    refine lv_aload_n hx hb dL_act_177 rfl (lv_at hl 2 rfl) ?_
    refine lv_iload hx hb dL_act_178 (lv_at hl 0 rfl) ?_
    refine lv_iload_n hx hb dL_act_180 rfl (lv_at hl 1 rfl) ?_
    refine o_const (k := 2) hx hb dL_act_181 (by decide) ?_
    refine lv_ishr hx hb dL_act_182 ?_
    refine o_const (k := 2) hx hb dL_act_183 (by decide) ?_
    refine o_ri (va_runS (As := [.int ((xs (k + 1)) >>> (nI 2 &&& 31)), .int (nI 2)]) (rest := [.int (nI r9), .ref (o 0)]) ⟨hx, hb, hml, hown, hts⟩ (l_low l ((xs (k + 1)) >>> (nI 2 &&& 31)) 2 (by decide) (by decide)) (va_cwS 2 hts gL_act_L_low rfl rfl rfl (by decide +kernel) ⟨Nat.le_of_ble_eq_true rfl, Nat.le_of_ble_eq_true rfl⟩) ya_pT rfl rfl hl.1 rfl (lv_room (Nat.le_of_ble_eq_true rfl)) dL_act_184 ⟨Nat.zero_le _, Nat.zero_le _⟩) (fun r1 e1 => ?_)
    have e1 : r1 = nI (ya_low ((xs (k + 1)) >>> (nI 2 &&& 31)) 2) := e1
    subst e1
    have hlt_184 := ya_low_lt (a := ((xs (k + 1)) >>> (nI 2 &&& 31))) (n := 2) (by decide)
    refine o_if_ne (tgt := 194) hx hb dL_act_187 (by decide) (by omega) (fun z2 => ?_) (fun z2 => ?_)
    · skip
      refine o_const (k := 0) hx hb dL_act_194 (by decide) ?_
      refine o_wiA (va_runV (As := [.int (nI r9), .int (nI 0)]) (rest := []) ⟨hx, hb, hml, hown, hts⟩ (k_X4_reader l D cI cR cS cL s.heap.size o x v V b r9 0 hSI hb28 h.1 h.2.1 (by omega) (by omega)) (cwV 2 hts gL_act_X4_reader rfl rfl rfl (by decide +kernel) ⟨Nat.le_of_ble_eq_true rfl, Nat.le_of_ble_eq_true rfl⟩) (o_v (o_pB hK hN hP hD) (va_recv hK hP (ci := 4) (q0 := 0) rfl rfl)) rfl rfl hl.1 rfl (lv_room (Nat.le_of_ble_eq_true rfl)) dL_act_195 ⟨Nat.zero_le _, Nat.zero_le _⟩) hD hS hA (fun _ => rfl) (fun r1 _ H locs e1 hP hD hS => ?_)
      have e1 : r1 = nI (v (5 + 3 * r9) 0) := e1
      subst e1
      have G9 : qa_A b q9 r9 (v (5 + 3 * r9) 0) x v (va_up x 0 (c_sv (x 0))) (va_up v (5 + 3 * r9) (r_anew (fun j => v (j + (5 + 3 * r9))) 0 0)) (c_put V ((x 0 3 + x 0 4) % 6) v) := qa_A0 h (qa_reader h.2.2.1 hr4 (by decide)) hq (by have h8 := hSI.2 r9 hr4; unfold s_IR at h8; omega) (Nat.le_of_eq (by rw [n_up_ne2 (by omega)]))
      refine W.widen (k := 1) (n := 6) (by omega) (by omega) ?_
      exact W.iret (v := nI (v (5 + 3 * r9) 0)) hx hb hrt (fun t ht hW => ⟨⟨_, ((va_up x 0 (c_sv (x 0))), (va_up v (5 + 3 * r9) (r_anew (fun j => v (j + (5 + 3 * r9))) 0 0)), (c_put V ((x 0 3 + x 0 4) % 6) v)), rfl, ⟨_, rfl, G9⟩, by show va_P D vwCl _ t.heap; rw [ht]; exact hP⟩, hS.F ht⟩) hS.2.2 dL_act_198
    · skip
      refine o_const (k := 1) hx hb dL_act_190 (by decide) ?_
      refine lv_goto (tgt := 195) hx hb dL_act_191 (by decide) ?_
      refine o_wiA (va_runV (As := [.int (nI r9), .int (nI 1)]) (rest := []) ⟨hx, hb, hml, hown, hts⟩ (k_X4_reader l D cI cR cS cL s.heap.size o x v V b r9 1 hSI hb28 h.1 h.2.1 (by omega) (by omega)) (cwV 2 hts gL_act_X4_reader rfl rfl rfl (by decide +kernel) ⟨Nat.le_of_ble_eq_true rfl, Nat.le_of_ble_eq_true rfl⟩) (o_v (o_pB hK hN hP hD) (va_recv hK hP (ci := 4) (q0 := 0) rfl rfl)) rfl rfl hl.1 rfl (lv_room (Nat.le_of_ble_eq_true rfl)) dL_act_195 ⟨Nat.zero_le _, Nat.zero_le _⟩) hD hS hA (fun _ => rfl) (fun r1 _ H locs e1 hP hD hS => ?_)
      have e1 : r1 = nI (v (5 + 3 * r9) 0) := e1
      subst e1
      have G9 : qa_A b q9 r9 (v (5 + 3 * r9) 0) x v (va_up x 0 (c_sv (x 0))) (va_up v (5 + 3 * r9) (r_anew (fun j => v (j + (5 + 3 * r9))) 1 0)) (c_put V ((x 0 3 + x 0 4) % 6) v) := qa_A0 h (qa_reader h.2.2.1 hr4 (by decide)) hq (by have h8 := hSI.2 r9 hr4; unfold s_IR at h8; omega) (Nat.le_of_eq (by rw [n_up_ne2 (by omega)]))
      refine W.widen (k := 1) (n := 6) (by omega) (by omega) ?_
      exact W.iret (v := nI (v (5 + 3 * r9) 0)) hx hb hrt (fun t ht hW => ⟨⟨_, ((va_up x 0 (c_sv (x 0))), (va_up v (5 + 3 * r9) (r_anew (fun j => v (j + (5 + 3 * r9))) 1 0)), (c_put V ((x 0 3 + x 0 4) % 6) v)), rfl, ⟨_, rfl, G9⟩, by show va_P D vwCl _ t.heap; rw [ht]; exact hP⟩, hS.F ht⟩) hS.2.2 dL_act_198
  have K199 : q9 < 17 → W p l e (headSpec wsL_act ({ frames := 8, cells := 1, slots := 6, locals := 130 })).room s m ([.ref (o 0), .ref sb, .int (nI k)] : List Value).toArray below meth cd s.heap [] 0 0 (MQ below (va_Qi (fun rz (u : ya_S) => ∃ t, rz = nI t ∧ qa_A b q9 r9 t x v u.1 u.2.1 u.2.2) (fun (u : ya_S) t => va_P D vwCl (wO o cI cR cS u.1 u.2.1 (wV o cI cR u.2.2)) t.heap) A) ([.ref (o 0), .ref sb, .int (nI k)] : List Value).toArray s 1 6 A) (F0 m 199 ls []) := by
    intro hq
    refine lv_aload_n hx hb dL_act_199 rfl (lv_at hl 2 rfl) ?_
    refine o_const (k := 1) hx hb dL_act_200 (by decide) ?_
    refine lv_iload_n hx hb dL_act_201 rfl (lv_at hl 1 rfl) ?_
    refine o_bipush (k := 20) hx hb dL_act_202 (by decide) ?_
    refine o_ri (va_runS (As := [.int (xs (k + 1)), .int (nI 20)]) (rest := [.int (nI 1), .ref (o 0)]) ⟨hx, hb, hml, hown, hts⟩ (l_low l (xs (k + 1)) 20 (by decide) (by decide)) (va_cwS 2 hts gL_act_L_low rfl rfl rfl (by decide +kernel) ⟨Nat.le_of_ble_eq_true rfl, Nat.le_of_ble_eq_true rfl⟩) ya_pT rfl rfl hl.1 rfl (lv_room (Nat.le_of_ble_eq_true rfl)) dL_act_204 ⟨Nat.zero_le _, Nat.zero_le _⟩) (fun r1 e1 => ?_)
    have e1 : r1 = nI (ya_low (xs (k + 1)) 20) := e1
    subst e1
    have hlt_204 := ya_low_lt (a := (xs (k + 1))) (n := 20) (by decide)
    refine o_iadd (a := 1) (b := (ya_low (xs (k + 1)) 20)) (k := (1 + (ya_low (xs (k + 1)) 20))) hx hb dL_act_207 rfl ?_
    refine o_wiA (va_runV (As := [.int (nI (1 + (ya_low (xs (k + 1)) 20)))]) (rest := []) ⟨hx, hb, hml, hown, hts⟩ (k_X4_set l D cI cR cS cL s.heap.size o x v V b (1 + (ya_low (xs (k + 1)) 20)) hSI hb28 h.1 h.2.1 (by omega) (by omega)) (cwV 1 hts gL_act_X4_set rfl rfl rfl (by decide +kernel) ⟨Nat.le_of_ble_eq_true rfl, Nat.le_of_ble_eq_true rfl⟩) (o_v (o_pB hK hN hP hD) (va_recv hK hP (ci := 4) (q0 := 0) rfl rfl)) rfl rfl hl.1 rfl (lv_room (Nat.le_of_ble_eq_true rfl)) dL_act_208 ⟨Nat.zero_le _, Nat.zero_le _⟩) hD hS hA (fun _ => rfl) (fun r1 _ H locs e1 hP hD hS => ?_)
    have e1 : r1 = nI (v 0 2) := e1
    subst e1
    have G9 : qa_A b q9 r9 (v 0 2) x v (va_up x 0 (c_sv (x 0))) (va_up v 0 (va_up (v 0) 2 (1 + (ya_low (xs (k + 1)) 20)))) (c_put V ((x 0 3 + x 0 4) % 6) v) := qa_A0 h (qa_set h.2.2.1 (by omega)) hq (by have h8 := hSI.1.2.2.1; omega) (Nat.le_refl _)
    refine W.widen (k := 1) (n := 6) (by omega) (by omega) ?_
    exact W.iret (v := nI (v 0 2)) hx hb hrt (fun t ht hW => ⟨⟨_, ((va_up x 0 (c_sv (x 0))), (va_up v 0 (va_up (v 0) 2 (1 + (ya_low (xs (k + 1)) 20)))), (c_put V ((x 0 3 + x 0 4) % 6) v)), rfl, ⟨_, rfl, G9⟩, by show va_P D vwCl _ t.heap; rw [ht]; exact hP⟩, hS.F ht⟩) hS.2.2 dL_act_211
  have K155 : q9 < 17 → ∀ (k9 : Nat), k9 < 3 → ∀ (ls : Array Slot), lv_has ls 5 [(4, .int (nI r9)), (3, .int (xs (k + 1))), (0, .ref (o 0)), (1, .ref sb), (2, .int (nI k))] → W p l e (headSpec wsL_act ({ frames := 8, cells := 1, slots := 6, locals := 130 })).room s m ([.ref (o 0), .ref sb, .int (nI k)] : List Value).toArray below meth cd s.heap [] 0 0 (MQ below (va_Qi (fun rz (u : ya_S) => ∃ t, rz = nI t ∧ qa_A b q9 r9 t x v u.1 u.2.1 u.2.2) (fun (u : ya_S) t => va_P D vwCl (wO o cI cR cS u.1 u.2.1 (wV o cI cR u.2.2)) t.heap) A) ([.ref (o 0), .ref sb, .int (nI k)] : List Value).toArray s 1 6 A) (F0 m 155 ls [.int (nI k9), .ref (o 0)]) := by
    intro hq k9 hk9 ls hl
    refine ya_xi (vx_runSX (As := [.ref (o 0), .int (nI k9)]) (rest := []) ⟨hx, hb, hml, hown, hts⟩ (l_done l D cI cR cS cL hfl s.heap.size o x v V b q9 r9 k9 h hb9 (by omega) hq) (vx_cwSW 2 hts gL_act_L_done rfl rfl rfl (by decide +kernel) ⟨Nat.le_of_ble_eq_true rfl, Nat.le_of_ble_eq_true rfl⟩) (o_pF hK hG hP hD (va_free hD hS hA _ (o_rng (wO o cI cR cS x v (wV o cI cR V))))) rfl rfl hl.1 rfl (lv_room (Nat.le_of_ble_eq_true rfl)) dL_act_155 ⟨Nat.le_of_ble_eq_true rfl, Nat.le_of_ble_eq_true rfl⟩) hD hS hA (fun _ => rfl) (fun r1 u H locs e1 hP hD hS => ?_)
    exact W.iret (v := r1) hx hb hrt (fun t ht hW => ⟨⟨r1, u, rfl, e1, by show va_P D vwCl _ t.heap; rw [ht]; exact hP⟩, hS.F ht⟩) hS.2.2 dL_act_158
  have K122 : q9 < 17 → W p l e (headSpec wsL_act ({ frames := 8, cells := 1, slots := 6, locals := 130 })).room s m ([.ref (o 0), .ref sb, .int (nI k)] : List Value).toArray below meth cd s.heap [] 0 0 (MQ below (va_Qi (fun rz (u : ya_S) => ∃ t, rz = nI t ∧ qa_A b q9 r9 t x v u.1 u.2.1 u.2.2) (fun (u : ya_S) t => va_P D vwCl (wO o cI cR cS u.1 u.2.1 (wV o cI cR u.2.2)) t.heap) A) ([.ref (o 0), .ref sb, .int (nI k)] : List Value).toArray s 1 6 A) (F0 m 122 ls []) := by
    intro hq
    rcases qa_who h.2.2.1.2.1 with ⟨_, hw, _⟩ | ⟨_, hw, _⟩
    · skip
      refine lv_aload_n hx hb dL_act_122 rfl (lv_at hl 2 rfl) ?_
      refine lv_aload_n hx hb dL_act_123 rfl (lv_at hl 2 rfl) ?_
      refine o_const (k := 1) hx hb dL_act_124 (by decide) ?_
      refine o_ri (va_runV (As := [.int (nI 1)]) (rest := [.ref (o 0)]) ⟨hx, hb, hml, hown, hts⟩ (k_X4_count l D cI cR cS cL o x v (wV o cI cR V) b 1 hSI hb28 (by omega)) (cwV 1 hts gL_act_X4_count rfl rfl rfl (by decide +kernel) ⟨Nat.le_of_ble_eq_true rfl, Nat.le_of_ble_eq_true rfl⟩) (o_v (o_pR hK hN hP) (va_recv hK hP (ci := 4) (q0 := 0) rfl rfl)) rfl rfl hl.1 rfl (lv_room (Nat.le_of_ble_eq_true rfl)) dL_act_125 ⟨Nat.zero_le _, Nat.zero_le _⟩) (fun r1 e1 => ?_)
      have e1 : r1 = nI (c_cnt v (x 0 4) 1) := e1
      subst e1
      refine o_ti (show nI (c_cnt v (x 0 4) 1) = nI 4294967295 from congrArg nI (show c_cnt v (x 0 4) 1 = 4294967295 from hw)) ?_
      refine o_if_lt_neg (tgt := 150) hx hb dL_act_128 (by decide) (by decide) (by decide) ?_
      refine lv_iload_n hx hb dL_act_150 rfl (lv_at hl 1 rfl) ?_
      refine o_const (k := 3) hx hb dL_act_151 (by decide) ?_
      refine o_ri (va_runS (As := [.int (xs (k + 1)), .int (nI 3)]) (rest := [.ref (o 0)]) ⟨hx, hb, hml, hown, hts⟩ (l_low l (xs (k + 1)) 3 (by decide) (by decide)) (va_cwS 2 hts gL_act_L_low rfl rfl rfl (by decide +kernel) ⟨Nat.le_of_ble_eq_true rfl, Nat.le_of_ble_eq_true rfl⟩) ya_pT rfl rfl hl.1 rfl (lv_room (Nat.le_of_ble_eq_true rfl)) dL_act_152 ⟨Nat.zero_le _, Nat.zero_le _⟩) (fun r1 e1 => ?_)
      have e1 : r1 = nI (ya_low (xs (k + 1)) 3) := e1
      subst e1
      have hlt_152 := ya_low_lt (a := (xs (k + 1))) (n := 3) (by decide)
      exact K155 hq (ya_low (xs (k + 1)) 3) (by omega) ls hl
    · skip
      refine lv_aload_n hx hb dL_act_122 rfl (lv_at hl 2 rfl) ?_
      refine lv_aload_n hx hb dL_act_123 rfl (lv_at hl 2 rfl) ?_
      refine o_const (k := 1) hx hb dL_act_124 (by decide) ?_
      refine o_ri (va_runV (As := [.int (nI 1)]) (rest := [.ref (o 0)]) ⟨hx, hb, hml, hown, hts⟩ (k_X4_count l D cI cR cS cL o x v (wV o cI cR V) b 1 hSI hb28 (by omega)) (cwV 1 hts gL_act_X4_count rfl rfl rfl (by decide +kernel) ⟨Nat.le_of_ble_eq_true rfl, Nat.le_of_ble_eq_true rfl⟩) (o_v (o_pR hK hN hP) (va_recv hK hP (ci := 4) (q0 := 0) rfl rfl)) rfl rfl hl.1 rfl (lv_room (Nat.le_of_ble_eq_true rfl)) dL_act_125 ⟨Nat.zero_le _, Nat.zero_le _⟩) (fun r1 e1 => ?_)
      have e1 : r1 = nI (c_cnt v (x 0 4) 1) := e1
      subst e1
      refine o_ti (show nI (c_cnt v (x 0 4) 1) = nI (b_who (v 3)) from congrArg nI rfl) ?_
      refine o_if_lt (tgt := 150) hx hb dL_act_128 (by decide) (by omega) ?_
      refine lv_iload_n hx hb dL_act_131 rfl (lv_at hl 1 rfl) ?_
      refine o_const (k := 3) hx hb dL_act_132 (by decide) ?_
      refine lv_ishr hx hb dL_act_133 ?_
      refine o_bipush (k := 6) hx hb dL_act_134 (by decide) ?_
      refine o_ri (va_runS (As := [.int ((xs (k + 1)) >>> (nI 3 &&& 31)), .int (nI 6)]) (rest := [.ref (o 0)]) ⟨hx, hb, hml, hown, hts⟩ (l_low l ((xs (k + 1)) >>> (nI 3 &&& 31)) 6 (by decide) (by decide)) (va_cwS 2 hts gL_act_L_low rfl rfl rfl (by decide +kernel) ⟨Nat.le_of_ble_eq_true rfl, Nat.le_of_ble_eq_true rfl⟩) ya_pT rfl rfl hl.1 rfl (lv_room (Nat.le_of_ble_eq_true rfl)) dL_act_136 ⟨Nat.zero_le _, Nat.zero_le _⟩) (fun r1 e1 => ?_)
      have e1 : r1 = nI (ya_low ((xs (k + 1)) >>> (nI 3 &&& 31)) 6) := e1
      subst e1
      have hlt_136 := ya_low_lt (a := ((xs (k + 1)) >>> (nI 3 &&& 31))) (n := 6) (by decide)
      refine o_if_le (tgt := 150) hx hb dL_act_139 (by decide) (by omega) (fun z2 => ?_) (fun z2 => ?_)
      · skip
        refine lv_iload_n hx hb dL_act_150 rfl (lv_at hl 1 rfl) ?_
        refine o_const (k := 3) hx hb dL_act_151 (by decide) ?_
        refine o_ri (va_runS (As := [.int (xs (k + 1)), .int (nI 3)]) (rest := [.ref (o 0)]) ⟨hx, hb, hml, hown, hts⟩ (l_low l (xs (k + 1)) 3 (by decide) (by decide)) (va_cwS 2 hts gL_act_L_low rfl rfl rfl (by decide +kernel) ⟨Nat.le_of_ble_eq_true rfl, Nat.le_of_ble_eq_true rfl⟩) ya_pT rfl rfl hl.1 rfl (lv_room (Nat.le_of_ble_eq_true rfl)) dL_act_152 ⟨Nat.zero_le _, Nat.zero_le _⟩) (fun r1 e1 => ?_)
        have e1 : r1 = nI (ya_low (xs (k + 1)) 3) := e1
        subst e1
        have hlt_152 := ya_low_lt (a := (xs (k + 1))) (n := 3) (by decide)
        exact K155 hq (ya_low (xs (k + 1)) 3) (by omega) ls hl
      · skip
        refine lv_aload_n hx hb dL_act_142 rfl (lv_at hl 2 rfl) ?_
        refine o_const (k := 1) hx hb dL_act_143 (by decide) ?_
        refine o_ri (va_runV (As := [.int (nI 1)]) (rest := [.ref (o 0)]) ⟨hx, hb, hml, hown, hts⟩ (k_X4_count l D cI cR cS cL o x v (wV o cI cR V) b 1 hSI hb28 (by omega)) (cwV 1 hts gL_act_X4_count rfl rfl rfl (by decide +kernel) ⟨Nat.le_of_ble_eq_true rfl, Nat.le_of_ble_eq_true rfl⟩) (o_v (o_pR hK hN hP) (va_recv hK hP (ci := 4) (q0 := 0) rfl rfl)) rfl rfl hl.1 rfl (lv_room (Nat.le_of_ble_eq_true rfl)) dL_act_144 ⟨Nat.zero_le _, Nat.zero_le _⟩) (fun r1 e1 => ?_)
        have e1 : r1 = nI (c_cnt v (x 0 4) 1) := e1
        subst e1
        refine o_ti (show nI (c_cnt v (x 0 4) 1) = nI (b_who (v 3)) from congrArg nI rfl) ?_
        refine lv_goto (tgt := 155) hx hb dL_act_147 (by decide) ?_
        exact K155 hq (b_who (v 3)) (by omega) ls hl
  rcases (show q9 = 0 ∨ q9 = 1 ∨ q9 = 2 ∨ q9 = 3 ∨ q9 = 4 ∨ q9 = 5 ∨ q9 = 6 ∨ q9 = 7 ∨ q9 = 8 ∨ q9 = 9 ∨ q9 = 10 ∨ q9 = 11 ∨ q9 = 12 ∨ q9 = 13 ∨ q9 = 14 ∨ q9 = 15 ∨ q9 = 16 ∨ q9 = 17 ∨ 17 < q9 by omega) with t | t | t | t | t | t | t | t | t | t | t | t | t | t | t | t | t | t | t
  · refine o_ti (show nI q9 = nI 0 from by rw [t]) ?_
    refine lv_tableIn (tgt := 112) (off := 87) hx hb dL_act_25 (by decide) (by decide) (by decide) (by decide) ?_
    exact K112 (by omega)
  · refine o_ti (show nI q9 = nI 1 from by rw [t]) ?_
    refine lv_tableIn (tgt := 112) (off := 87) hx hb dL_act_25 (by decide) (by decide) (by decide) (by decide) ?_
    exact K112 (by omega)
  · refine o_ti (show nI q9 = nI 2 from by rw [t]) ?_
    refine lv_tableIn (tgt := 112) (off := 87) hx hb dL_act_25 (by decide) (by decide) (by decide) (by decide) ?_
    exact K112 (by omega)
  · refine o_ti (show nI q9 = nI 3 from by rw [t]) ?_
    refine lv_tableIn (tgt := 112) (off := 87) hx hb dL_act_25 (by decide) (by decide) (by decide) (by decide) ?_
    exact K112 (by omega)
  · refine o_ti (show nI q9 = nI 4 from by rw [t]) ?_
    refine lv_tableIn (tgt := 122) (off := 97) hx hb dL_act_25 (by decide) (by decide) (by decide) (by decide) ?_
    exact K122 (by omega)
  · refine o_ti (show nI q9 = nI 5 from by rw [t]) ?_
    refine lv_tableIn (tgt := 122) (off := 97) hx hb dL_act_25 (by decide) (by decide) (by decide) (by decide) ?_
    exact K122 (by omega)
  · refine o_ti (show nI q9 = nI 6 from by rw [t]) ?_
    refine lv_tableIn (tgt := 122) (off := 97) hx hb dL_act_25 (by decide) (by decide) (by decide) (by decide) ?_
    exact K122 (by omega)
  · refine o_ti (show nI q9 = nI 7 from by rw [t]) ?_
    refine lv_tableIn (tgt := 122) (off := 97) hx hb dL_act_25 (by decide) (by decide) (by decide) (by decide) ?_
    exact K122 (by omega)
  · refine o_ti (show nI q9 = nI 8 from by rw [t]) ?_
    refine lv_tableIn (tgt := 159) (off := 134) hx hb dL_act_25 (by decide) (by decide) (by decide) (by decide) ?_
    exact K159 (by omega)
  · refine o_ti (show nI q9 = nI 9 from by rw [t]) ?_
    refine lv_tableIn (tgt := 159) (off := 134) hx hb dL_act_25 (by decide) (by decide) (by decide) (by decide) ?_
    exact K159 (by omega)
  · refine o_ti (show nI q9 = nI 10 from by rw [t]) ?_
    refine lv_tableIn (tgt := 159) (off := 134) hx hb dL_act_25 (by decide) (by decide) (by decide) (by decide) ?_
    exact K159 (by omega)
  · refine o_ti (show nI q9 = nI 11 from by rw [t]) ?_
    refine lv_tableIn (tgt := 177) (off := 152) hx hb dL_act_25 (by decide) (by decide) (by decide) (by decide) ?_
    exact K177 (by omega)
  · refine o_ti (show nI q9 = nI 12 from by rw [t]) ?_
    refine lv_tableIn (tgt := 199) (off := 174) hx hb dL_act_25 (by decide) (by decide) (by decide) (by decide) ?_
    exact K199 (by omega)
  · refine o_ti (show nI q9 = nI 13 from by rw [t]) ?_
    refine lv_tableIn (tgt := 212) (off := 187) hx hb dL_act_25 (by decide) (by decide) (by decide) (by decide) ?_
    exact K212 (by omega)
  · refine o_ti (show nI q9 = nI 14 from by rw [t]) ?_
    refine lv_tableIn (tgt := 212) (off := 187) hx hb dL_act_25 (by decide) (by decide) (by decide) (by decide) ?_
    exact K212 (by omega)
  · refine o_ti (show nI q9 = nI 15 from by rw [t]) ?_
    refine lv_tableIn (tgt := 212) (off := 187) hx hb dL_act_25 (by decide) (by decide) (by decide) (by decide) ?_
    exact K212 (by omega)
  · refine o_ti (show nI q9 = nI 16 from by rw [t]) ?_
    refine lv_tableIn (tgt := 212) (off := 187) hx hb dL_act_25 (by decide) (by decide) (by decide) (by decide) ?_
    exact K212 (by omega)
  · refine o_ti (show nI q9 = nI 17 from by rw [t]) ?_
    refine lv_tableIn (tgt := 219) (off := 194) hx hb dL_act_25 (by decide) (by decide) (by decide) (by decide) ?_
    exact K219 t
  · refine lv_tableOut (tgt := 224) hx hb dL_act_25 (Or.inr (by rw [nI_toInt (by omega)]; omega)) (by decide) ?_
    exact K224 t
