theorem inX5_isText_X5 : ∀ w ∈ wsX50, w ∈ wsX5_isText := by decide +kernel
set_option maxHeartbeats 4000000 in
set_option maxRecDepth 100000 in
theorem k_X5_isText (l : Launch) (D : va_G) (cI cR cS cL : ClassId) (sz : Nat) (q : Nat → Nat) (v : Nat → Nat → Nat) (TX : Nat × Nat × Nat × (Nat → Nat) × Nat) (h2 : v 0 1 ≤ 60) (ht : ∀ k, v 3 k < 2 ^ 31) (hTX : m_tx (v 3) (v 0 1) 61 0 0 (v 4) = TX) : Met l yX5_isText wsX5_isText ({ frames := 4, cells := 0, slots := 0, locals := 86 }) (va_Pc [.ref (q 0)] (o_B D (o_T cI cR cS cL) (wM q cI v) sz)) (va_Qi (fun rz (_ : Unit) => rz = nI TX.2.2.2.2) (fun (_ : Unit) t => va_P D vwCl (wM q cI (va_up (va_up v 0 (va_up (va_up (va_up (v 0) 3 TX.1) 4 TX.2.1) 5 TX.2.2.1)) 4 TX.2.2.2.1)) t.heap) (va_A (wM q cI v) sz)) 0 0 (va_A (wM q cI v) sz) := by
  refine Met.ofW (cc := cX5_isText) (maxL := 1) (ret := (some .boolean)) (by decide) rfl ?_
  intro p e s m args below meth cd s₁ B hml hv
  obtain ⟨rfl, hsz, hP, hK, hD0, hN⟩ := hv
  have hx := B.exec
  have hb := B.bytes
  have hrt := B.returns
  have hts := atoms_spec (ws := wsX5_isText) B.pre
  have hown : s.vm.findClass RX5 = some m.cls := findClass_of_methodNamed B.named
  have hlocks := B.notSynchronized
  subst hsz
  have hD := hD0.self (sz := s.heap.size)
  generalize hAe : va_A (wM q cI v) s.heap.size = A at hD ⊢
  have hA : ∀ q : Nat, s.heap.size ≤ q → A q := fun q h => by rw [← hAe]; exact Or.inr h
  have hS : va_S A s.heap s.heap [] := va_S.rf
  have hl := lv_entry ([.ref (q 0)]) (n := 1) (Nat.le_of_ble_eq_true rfl)
  rw [lg_entry_eq]
  generalize (lg_sl ([.ref (q 0)]) ++ List.replicate (1 - (lg_sl ([.ref (q 0)])).length) Slot.unset).toArray = ls at hl ⊢
  have hl : lv_has ls 1 [(0, .ref (q 0))] := hl
  refine lv_aload_n hx hb dX5_isText_0 rfl (lv_at hl 0 rfl) ?_
  refine o_const (k := 0) hx hb dX5_isText_1 (by decide) ?_
  refine va_put (D := D) (ci := 5) (v := .int (nI 0)) (ty := .int) (C := RX5) (T := TX5) (N := 10) hx hb hts inX5_isText_X5 tyX5 tyX5_ok nmX5 hown hK hP hD hS 0 rfl rfl 6 (by decide) (hts (.fieldLink RX5 89 "OddNoticeModel" "at" "I") (List.mem_of_getElem? (i := 1) (by decide +kernel))) (fun _ h9 => h9) rfl (by decide +kernel) rfl rfl (Nat.le_of_ble_eq_true rfl) dX5_isText_2 (fun H locs hP hD hS => ?_)
  have hP : va_P D vwCl (wM q cI (va_up v 0 (va_up (v 0) 3 0))) H := hP
  have hD : va_D A (wM q cI (va_up v 0 (va_up (v 0) 3 0))) := hD
  refine lv_aload_n hx hb dX5_isText_5 rfl (lv_at hl 0 rfl) ?_
  refine o_const (k := 0) hx hb dX5_isText_6 (by decide) ?_
  refine va_put (D := D) (ci := 5) (v := .int (nI 0)) (ty := .int) (C := RX5) (T := TX5) (N := 10) hx hb hts inX5_isText_X5 tyX5 tyX5_ok nmX5 hown hK hP hD hS 0 rfl rfl 9 (by decide) (hts (.fieldLink RX5 106 "OddNoticeModel" "tolds" "I") (List.mem_of_getElem? (i := 2) (by decide +kernel))) (fun _ h9 => h9) rfl (by decide +kernel) rfl rfl (Nat.le_of_ble_eq_true rfl) dX5_isText_7 (fun H locs hP hD hS => ?_)
  have hP : va_P D vwCl (wM q cI (va_up v 0 (va_up (va_up (v 0) 3 0) 5 0))) H := hP
  have hD : va_D A (wM q cI (va_up v 0 (va_up (va_up (v 0) 3 0) 5 0))) := hD
  refine lv_aload_n hx hb dX5_isText_10 rfl (lv_at hl 0 rfl) ?_
  refine o_const (k := 0) hx hb dX5_isText_11 (by decide) ?_
  refine va_put (D := D) (ci := 5) (v := .int (nI 0)) (ty := .boolean) (C := RX5) (T := TX5) (N := 10) hx hb hts inX5_isText_X5 tyX5 tyX5_ok nmX5 hown hK hP hD hS 0 rfl rfl 7 (by decide) (hts (.fieldLink RX5 92 "OddNoticeModel" "isFault" "Z") (List.mem_of_getElem? (i := 3) (by decide +kernel))) (fun _ h9 => h9) rfl (by decide +kernel) rfl rfl (Nat.le_of_ble_eq_true rfl) dX5_isText_12 (fun H locs hP hD hS => ?_)
  have hP : va_P D vwCl (wM q cI (va_up v 0 (va_up (va_up (va_up (v 0) 3 0) 4 0) 5 0))) H := hP
  have hD : va_D A (wM q cI (va_up v 0 (va_up (va_up (va_up (v 0) 3 0) 4 0) 5 0))) := hD
  have lp_1 : ∀ (fu : Nat) (f : Nat) (ix : Nat) (n : Nat) (td : Nat → Nat), m_tx (v 3) (v 0 1) f ix n td = TX → v 0 1 < ix + f → 2 * n ≤ ix → ix ≤ v 0 1 → f < fu → ∀ (H : Heap) (locs : List Loc) (hP : va_P D vwCl (wM q cI (va_up (va_up v 0 (va_up (va_up (va_up (v 0) 3 ix) 4 0) 5 n)) 4 td)) H) (hD : va_D A (wM q cI (va_up (va_up v 0 (va_up (va_up (va_up (v 0) 3 ix) 4 0) 5 n)) 4 td))) (hS : va_S A s.heap H locs) (ls : Array Slot) (hl : lv_has ls 1 [(0, .ref (q 0))]), W p l e (headSpec wsX5_isText ({ frames := 4, cells := 0, slots := 0, locals := 86 })).room s m ([.ref (q 0)] : List Value).toArray below meth cd H locs 0 0 (MQ below (va_Qi (fun rz (_ : Unit) => rz = nI TX.2.2.2.2) (fun (_ : Unit) t => va_P D vwCl (wM q cI (va_up (va_up v 0 (va_up (va_up (va_up (v 0) 3 TX.1) 4 TX.2.1) 5 TX.2.2.1)) 4 TX.2.2.2.1)) t.heap) A) ([.ref (q 0)] : List Value).toArray s 0 0 A) (F0 m 15 ls []) := by
    intro fu
    induction fu with
    | zero => intro f ix n td hE hf hx2 hx3 hm; exact absurd hm (Nat.not_lt_zero _)
    | succ fu ih_1 =>
      intro f ix n td hE hf hx2 hx3 hm_1 H locs hP hD hS ls hl
      obtain ⟨g, rfl⟩ : ∃ g, f = g + 1 := ⟨f - 1, by omega⟩
      refine lv_aload_n hx hb dX5_isText_15 rfl (lv_at hl 0 rfl) ?_
      refine va_get (D := D) (ci := 5) (v := .int (nI ix)) (C := RX5) (T := TX5) (N := 10) hx hb hts inX5_isText_X5 hown hK hP 0 rfl rfl 6 (by decide) (hts (.fieldLink RX5 89 "OddNoticeModel" "at" "I") (List.mem_of_getElem? (i := 1) (by decide +kernel))) (fun _ h9 => h9) rfl dX5_isText_16 ?_
      refine lv_aload_n hx hb dX5_isText_19 rfl (lv_at hl 0 rfl) ?_
      refine va_get (D := D) (ci := 5) (v := .int (nI (v 0 1))) (C := RX5) (T := TX5) (N := 10) hx hb hts inX5_isText_X5 hown hK hP 0 rfl rfl 4 (by decide) (hts (.fieldLink RX5 86 "OddNoticeModel" "typed" "I") (List.mem_of_getElem? (i := 4) (by decide +kernel))) (fun _ h9 => h9) rfl dX5_isText_20 ?_
      refine o_icmp_ge (tgt := 48) hx hb dX5_isText_23 (by decide) (by omega) (by omega) (fun c_1 => ?_) (fun c_1 => ?_)
      · skip
        refine lv_aload_n hx hb dX5_isText_48 rfl (lv_at hl 0 rfl) ?_
        refine va_get (D := D) (ci := 5) (v := .int (nI n)) (C := RX5) (T := TX5) (N := 10) hx hb hts inX5_isText_X5 hown hK hP 0 rfl rfl 9 (by decide) (hts (.fieldLink RX5 106 "OddNoticeModel" "tolds" "I") (List.mem_of_getElem? (i := 2) (by decide +kernel))) (fun _ h9 => h9) rfl dX5_isText_49 ?_
        refine o_if_le (tgt := 59) hx hb dX5_isText_52 (by decide) (by omega) (fun c_2 => ?_) (fun c_2 => ?_)
        · skip
          refine o_const (k := 0) hx hb dX5_isText_59 (by decide) ?_
          have w_3 : (wM q cI (va_up (va_up v 0 (va_up (va_up (va_up (v 0) 3 TX.1) 4 TX.2.1) 5 TX.2.2.1)) 4 TX.2.2.2.1)) = (wM q cI (va_up (va_up v 0 (va_up (va_up (va_up (v 0) 3 ix) 4 0) 5 n)) 4 td)) := (by rw [← hE, m_tx_end (by omega)]; first | done | rfl)
          rw [← w_3] at hP
          exact W.zret (v := nI 0) hx hb hrt rfl (fun t ht hW => ⟨⟨_, (), rfl, (congrArg nI (by rw [← hE, m_tx_end (by omega)]; first | rw [bn_t (by omega)] | rw [bn_f (by omega)])), by show va_P D vwCl _ t.heap; rw [ht]; exact hP⟩, hS.F ht⟩) hS.2.2 dX5_isText_60
        · skip
          refine o_const (k := 1) hx hb dX5_isText_55 (by decide) ?_
          refine lv_goto (tgt := 60) hx hb dX5_isText_56 (by decide) ?_
          have w_4 : (wM q cI (va_up (va_up v 0 (va_up (va_up (va_up (v 0) 3 TX.1) 4 TX.2.1) 5 TX.2.2.1)) 4 TX.2.2.2.1)) = (wM q cI (va_up (va_up v 0 (va_up (va_up (va_up (v 0) 3 ix) 4 0) 5 n)) 4 td)) := (by rw [← hE, m_tx_end (by omega)]; first | done | rfl)
          rw [← w_4] at hP
          exact W.zret (v := nI 1) hx hb hrt rfl (fun t ht hW => ⟨⟨_, (), rfl, (congrArg nI (by rw [← hE, m_tx_end (by omega)]; first | rw [bn_t (by omega)] | rw [bn_f (by omega)])), by show va_P D vwCl _ t.heap; rw [ht]; exact hP⟩, hS.F ht⟩) hS.2.2 dX5_isText_60
      · skip
        refine lv_aload_n hx hb dX5_isText_26 rfl (lv_at hl 0 rfl) ?_
        refine o_wi (va_runV (As := []) (rest := []) ⟨hx, hb, hml, hown, hts⟩ (k_X5_isPart l D cI cR cS cL H.size q (va_up (va_up v 0 (va_up (va_up (va_up (v 0) 3 ix) 4 0) 5 n)) 4 td) (by show ix < v 0 1; first | assumption | omega) (by show n ≤ 30; omega) (by show v 0 1 ≤ 60; first | assumption | omega) (by show ∀ k, v 3 k < 2 ^ 31; first | assumption | omega)) (cwV 0 hts gX5_isText_X5_isPart rfl rfl rfl (by decide +kernel) ⟨Nat.le_of_ble_eq_true rfl, Nat.le_of_ble_eq_true rfl⟩) (o_v (o_pB hK hN hP hD) (va_recv hK hP (ci := 5) (q0 := 0) rfl rfl)) rfl rfl hl.1 rfl (lv_room (Nat.le_of_ble_eq_true rfl)) dX5_isText_27 ⟨Nat.zero_le _, Nat.zero_le _⟩) hP hD hS hA [0, 1, 2, 3, 4] (by decide) rfl (fun _ => rfl) (fun r_6 _ H locs e_5 hP hD hS => ?_)
        have e_5 : r_6 = nI ((m_pt (v 3) (v 0 1) (n) (ix) (0) (td)).2.2.2) := e_5
        subst e_5
        have hP : va_P D vwCl (wM q cI (va_up (va_up v 0 (va_up (va_up (va_up (v 0) 3 ((m_pt (v 3) (v 0 1) (n) (ix) (0) (td)).1)) 4 ((m_pt (v 3) (v 0 1) (n) (ix) (0) (td)).2.1)) 5 n)) 4 ((m_pt (v 3) (v 0 1) (n) (ix) (0) (td)).2.2.1))) H := hP
        have hD : va_D A (wM q cI (va_up (va_up v 0 (va_up (va_up (va_up (v 0) 3 ((m_pt (v 3) (v 0 1) (n) (ix) (0) (td)).1)) 4 ((m_pt (v 3) (v 0 1) (n) (ix) (0) (td)).2.1)) 5 n)) 4 ((m_pt (v 3) (v 0 1) (n) (ix) (0) (td)).2.2.1))) := hD
        have hle := m_pt_le (v 3) (v 0 1) n ix 0 td
        refine o_if_ne (tgt := 35) hx hb dX5_isText_30 (by decide) (by omega) (fun c_7 => ?_) (fun c_7 => ?_)
        · skip
          refine lv_aload_n hx hb dX5_isText_35 rfl (lv_at hl 0 rfl) ?_
          refine lv_dup hx hb dX5_isText_36 rfl ?_
          refine va_get (D := D) (ci := 5) (v := .int (nI n)) (C := RX5) (T := TX5) (N := 10) hx hb hts inX5_isText_X5 hown hK hP 0 rfl rfl 9 (by decide) (hts (.fieldLink RX5 106 "OddNoticeModel" "tolds" "I") (List.mem_of_getElem? (i := 2) (by decide +kernel))) (fun _ h9 => h9) rfl dX5_isText_37 ?_
          refine o_const (k := 1) hx hb dX5_isText_40 (by decide) ?_
          refine o_iadd (a := n) (b := 1) (k := (n + 1)) hx hb dX5_isText_41 rfl ?_
          refine va_put (D := D) (ci := 5) (v := .int (nI (n + 1))) (ty := .int) (C := RX5) (T := TX5) (N := 10) hx hb hts inX5_isText_X5 tyX5 tyX5_ok nmX5 hown hK hP hD hS 0 rfl rfl 9 (by decide) (hts (.fieldLink RX5 106 "OddNoticeModel" "tolds" "I") (List.mem_of_getElem? (i := 2) (by decide +kernel))) (fun _ h9 => h9) rfl (by decide +kernel) rfl rfl (Nat.le_of_ble_eq_true rfl) dX5_isText_42 (fun H locs hP hD hS => ?_)
          have hP : va_P D vwCl (wM q cI (va_up (va_up v 0 (va_up (va_up (va_up (v 0) 3 ((m_pt (v 3) (v 0 1) (n) (ix) (0) (td)).1)) 4 ((m_pt (v 3) (v 0 1) (n) (ix) (0) (td)).2.1)) 5 (n + 1))) 4 ((m_pt (v 3) (v 0 1) (n) (ix) (0) (td)).2.2.1))) H := hP
          have hD : va_D A (wM q cI (va_up (va_up v 0 (va_up (va_up (va_up (v 0) 3 ((m_pt (v 3) (v 0 1) (n) (ix) (0) (td)).1)) 4 ((m_pt (v 3) (v 0 1) (n) (ix) (0) (td)).2.1)) 5 (n + 1))) 4 ((m_pt (v 3) (v 0 1) (n) (ix) (0) (td)).2.2.1))) := hD
          refine lv_goto (tgt := 15) hx hb dX5_isText_45 (by decide) ?_
          have hok := m_pt_ok (show (m_pt (v 3) (v 0 1) n ix 0 td).2.2.2 = 1 by omega)
          have w_8 : (wM q cI (va_up (va_up v 0 (va_up (va_up (va_up (v 0) 3 ((m_pt (v 3) (v 0 1) (n) (ix) (0) (td)).1)) 4 ((m_pt (v 3) (v 0 1) (n) (ix) (0) (td)).2.1)) 5 (n + 1))) 4 ((m_pt (v 3) (v 0 1) (n) (ix) (0) (td)).2.2.1))) = (wM q cI (va_up (va_up v 0 (va_up (va_up (va_up (v 0) 3 ((m_pt (v 3) (v 0 1) n ix 0 td).1)) 4 0) 5 (n + 1))) 4 ((m_pt (v 3) (v 0 1) n ix 0 td).2.2.1))) := by rw [show (m_pt (v 3) (v 0 1) n ix 0 td).2.1 = 0 from (m_pt_ok (show (m_pt (v 3) (v 0 1) n ix 0 td).2.2.2 = 1 by omega)).2.2]
          rw [w_8] at hP hD
          exact ih_1  g ((m_pt (v 3) (v 0 1) n ix 0 td).1) (n + 1) ((m_pt (v 3) (v 0 1) n ix 0 td).2.2.1) (by rw [← hE]; exact (m_tx_yes (by omega) (by omega)).symm) (by omega) (by omega) (by omega) (by omega) _ _ hP hD hS ls (lv_sub hl [0] rfl)
        · skip
          refine o_const (k := 0) hx hb dX5_isText_33 (by decide) ?_
          have w_9 : (wM q cI (va_up (va_up v 0 (va_up (va_up (va_up (v 0) 3 TX.1) 4 TX.2.1) 5 TX.2.2.1)) 4 TX.2.2.2.1)) = (wM q cI (va_up (va_up v 0 (va_up (va_up (va_up (v 0) 3 ((m_pt (v 3) (v 0 1) (n) (ix) (0) (td)).1)) 4 ((m_pt (v 3) (v 0 1) (n) (ix) (0) (td)).2.1)) 5 n)) 4 ((m_pt (v 3) (v 0 1) (n) (ix) (0) (td)).2.2.1))) := (by rw [← hE, m_tx_no (by omega) (by omega)]; first | done | rfl)
          rw [← w_9] at hP
          exact W.zret (v := nI 0) hx hb hrt rfl (fun t ht hW => ⟨⟨_, (), rfl, (congrArg nI (by rw [← hE, m_tx_no (by omega) (by omega)])), by show va_P D vwCl _ t.heap; rw [ht]; exact hP⟩, hS.F ht⟩) hS.2.2 dX5_isText_34
  have w_10 : (wM q cI (va_up v 0 (va_up (va_up (va_up (v 0) 3 0) 4 0) 5 0))) = (wM q cI (va_up (va_up v 0 (va_up (va_up (va_up (v 0) 3 0) 4 0) 5 0)) 4 (v 4))) := by rfl
  rw [w_10] at hP hD
  exact lp_1 _ 61 0 0 (v 4) (hTX) (by omega) (by omega) (by omega) (Nat.lt_succ_self _) _ _ hP hD hS ls (lv_sub hl [0] rfl)
theorem inX5_firstError_X5 : ∀ w ∈ wsX50, w ∈ wsX5_firstError := by decide +kernel
set_option maxHeartbeats 4000000 in
set_option maxRecDepth 100000 in
theorem k_X5_firstError (l : Launch) (D : va_G) (cI cR cS cL : ClassId) (sz : Nat) (q : Nat → Nat) (v : Nat → Nat → Nat) (TX : Nat × Nat × Nat × (Nat → Nat) × Nat) (h2 : v 0 1 ≤ 60) (ht : ∀ k, v 3 k < 2 ^ 31) (hTX : m_tx (v 3) (v 0 1) 61 0 0 (v 4) = TX) : Met l yX5_firstError wsX5_firstError ({ frames := 5, cells := 0, slots := 0, locals := 106 }) (va_Pc [.ref (q 0)] (o_B D (o_T cI cR cS cL) (wM q cI v) sz)) (va_Qi (fun rz (_ : Unit) => rz = nI (if TX.2.2.2.2 = 0 ∧ TX.2.1 = 1 then TX.1 else v 0 1)) (fun (_ : Unit) t => va_P D vwCl (wM q cI (va_up (va_up v 0 (va_up (va_up (va_up (va_up (v 0) 2 0) 3 TX.1) 4 TX.2.1) 5 TX.2.2.1)) 4 TX.2.2.2.1)) t.heap) (va_A (wM q cI v) sz)) 0 0 (va_A (wM q cI v) sz) := by
  refine Met.ofW (cc := cX5_firstError) (maxL := 2) (ret := (some .int)) (by decide) rfl ?_
  intro p e s m args below meth cd s₁ B hml hv
  obtain ⟨rfl, hsz, hP, hK, hD0, hN⟩ := hv
  have hx := B.exec
  have hb := B.bytes
  have hrt := B.returns
  have hts := atoms_spec (ws := wsX5_firstError) B.pre
  have hown : s.vm.findClass RX5 = some m.cls := findClass_of_methodNamed B.named
  have hlocks := B.notSynchronized
  subst hsz
  have hD := hD0.self (sz := s.heap.size)
  generalize hAe : va_A (wM q cI v) s.heap.size = A at hD ⊢
  have hA : ∀ q : Nat, s.heap.size ≤ q → A q := fun q h => by rw [← hAe]; exact Or.inr h
  have hS : va_S A s.heap s.heap [] := va_S.rf
  have hl := lv_entry ([.ref (q 0)]) (n := 2) (Nat.le_of_ble_eq_true rfl)
  rw [lg_entry_eq]
  generalize (lg_sl ([.ref (q 0)]) ++ List.replicate (2 - (lg_sl ([.ref (q 0)])).length) Slot.unset).toArray = ls at hl ⊢
  have hl : lv_has ls 2 [(0, .ref (q 0))] := hl
  have htl := m_tx_le (v 3) (v 0 1) 61 0 0 (v 4)
  have hta := m_tx_at (v 3) (v 0 1) 61 0 0 (v 4) (by omega)
  rw [hTX] at htl hta
  refine lv_aload_n hx hb dX5_firstError_0 rfl (lv_at hl 0 rfl) ?_
  refine o_const (k := 0) hx hb dX5_firstError_1 (by decide) ?_
  refine va_put (D := D) (ci := 5) (v := .int (nI 0)) (ty := .int) (C := RX5) (T := TX5) (N := 10) hx hb hts inX5_firstError_X5 tyX5 tyX5_ok nmX5 hown hK hP hD hS 0 rfl rfl 5 (by decide) (hts (.fieldLink RX5 22 "OddNoticeModel" "thrown" "I") (List.mem_of_getElem? (i := 1) (by decide +kernel))) (fun _ h9 => h9) rfl (by decide +kernel) rfl rfl (Nat.le_of_ble_eq_true rfl) dX5_firstError_2 (fun H locs hP hD hS => ?_)
  have hP : va_P D vwCl (wM q cI (va_up v 0 (va_up (v 0) 2 0))) H := hP
  have hD : va_D A (wM q cI (va_up v 0 (va_up (v 0) 2 0))) := hD
  refine lv_aload_n hx hb dX5_firstError_5 rfl (lv_at hl 0 rfl) ?_
  refine o_wi (va_runV (As := []) (rest := []) ⟨hx, hb, hml, hown, hts⟩ (k_X5_isText l D cI cR cS cL H.size q (va_up v 0 (va_up (v 0) 2 0)) TX (by show v 0 1 ≤ 60; first | assumption | omega) (by show ∀ k, v 3 k < 2 ^ 31; first | assumption | omega) (hTX)) (cwV 0 hts gX5_firstError_X5_isText rfl rfl rfl (by decide +kernel) ⟨Nat.le_of_ble_eq_true rfl, Nat.le_of_ble_eq_true rfl⟩) (o_v (o_pB hK hN hP hD) (va_recv hK hP (ci := 5) (q0 := 0) rfl rfl)) rfl rfl hl.1 rfl (lv_room (Nat.le_of_ble_eq_true rfl)) dX5_firstError_6 ⟨Nat.zero_le _, Nat.zero_le _⟩) hP hD hS hA [0, 1, 2, 3, 4] (by decide) rfl (fun _ => rfl) (fun r_2 _ H locs e_1 hP hD hS => ?_)
  have e_1 : r_2 = nI TX.2.2.2.2 := e_1
  subst e_1
  have hP : va_P D vwCl (wM q cI (va_up (va_up v 0 (va_up (va_up (va_up (va_up (v 0) 2 0) 3 TX.1) 4 TX.2.1) 5 TX.2.2.1)) 4 TX.2.2.2.1)) H := hP
  have hD : va_D A (wM q cI (va_up (va_up v 0 (va_up (va_up (va_up (va_up (v 0) 2 0) 3 TX.1) 4 TX.2.1) 5 TX.2.2.1)) 4 TX.2.2.2.1)) := hD
  refine lv_istore_n (lv' := [(1, .int (nI TX.2.2.2.2)), (0, .ref (q 0))]) hx hb dX5_firstError_9 rfl hl (by decide) rfl (fun ls hl => ?_)
  refine lv_iload_n hx hb dX5_firstError_10 rfl (lv_at hl 0 rfl) ?_
  refine o_if_ne (tgt := 28) hx hb dX5_firstError_11 (by decide) (by omega) (fun c_3 => ?_) (fun c_3 => ?_)
  · skip
    refine lv_aload_n hx hb dX5_firstError_28 rfl (lv_at hl 1 rfl) ?_
    refine va_get (D := D) (ci := 5) (v := .int (nI (v 0 1))) (C := RX5) (T := TX5) (N := 10) hx hb hts inX5_firstError_X5 hown hK hP 0 rfl rfl 4 (by decide) (hts (.fieldLink RX5 86 "OddNoticeModel" "typed" "I") (List.mem_of_getElem? (i := 4) (by decide +kernel))) (fun _ h9 => h9) rfl dX5_firstError_29 ?_
    exact W.iret (v := nI (v 0 1)) hx hb hrt (fun t ht hW => ⟨⟨_, (), rfl, (congrArg nI (by first | rw [if_pos (by omega)] | rw [if_neg (by omega)])), by show va_P D vwCl _ t.heap; rw [ht]; exact hP⟩, hS.F ht⟩) hS.2.2 dX5_firstError_32
  · skip
    refine lv_aload_n hx hb dX5_firstError_14 rfl (lv_at hl 1 rfl) ?_
    refine va_get (D := D) (ci := 5) (v := .int (nI TX.2.1)) (C := RX5) (T := TX5) (N := 10) hx hb hts inX5_firstError_X5 hown hK hP 0 rfl rfl 7 (by decide) (hts (.fieldLink RX5 92 "OddNoticeModel" "isFault" "Z") (List.mem_of_getElem? (i := 2) (by decide +kernel))) (fun _ h9 => h9) rfl dX5_firstError_15 ?_
    refine o_if_eq (tgt := 28) hx hb dX5_firstError_18 (by decide) (by omega) (fun c_4 => ?_) (fun c_4 => ?_)
    · skip
      refine lv_aload_n hx hb dX5_firstError_28 rfl (lv_at hl 1 rfl) ?_
      refine va_get (D := D) (ci := 5) (v := .int (nI (v 0 1))) (C := RX5) (T := TX5) (N := 10) hx hb hts inX5_firstError_X5 hown hK hP 0 rfl rfl 4 (by decide) (hts (.fieldLink RX5 86 "OddNoticeModel" "typed" "I") (List.mem_of_getElem? (i := 4) (by decide +kernel))) (fun _ h9 => h9) rfl dX5_firstError_29 ?_
      exact W.iret (v := nI (v 0 1)) hx hb hrt (fun t ht hW => ⟨⟨_, (), rfl, (congrArg nI (by first | rw [if_pos (by omega)] | rw [if_neg (by omega)])), by show va_P D vwCl _ t.heap; rw [ht]; exact hP⟩, hS.F ht⟩) hS.2.2 dX5_firstError_32
    · skip
      refine lv_aload_n hx hb dX5_firstError_21 rfl (lv_at hl 1 rfl) ?_
      refine va_get (D := D) (ci := 5) (v := .int (nI TX.1)) (C := RX5) (T := TX5) (N := 10) hx hb hts inX5_firstError_X5 hown hK hP 0 rfl rfl 6 (by decide) (hts (.fieldLink RX5 89 "OddNoticeModel" "at" "I") (List.mem_of_getElem? (i := 3) (by decide +kernel))) (fun _ h9 => h9) rfl dX5_firstError_22 ?_
      refine lv_goto (tgt := 32) hx hb dX5_firstError_25 (by decide) ?_
      exact W.iret (v := nI TX.1) hx hb hrt (fun t ht hW => ⟨⟨_, (), rfl, (congrArg nI (by first | rw [if_pos (by omega)] | rw [if_neg (by omega)])), by show va_P D vwCl _ t.heap; rw [ht]; exact hP⟩, hS.F ht⟩) hS.2.2 dX5_firstError_32
theorem inX5_may_X5 : ∀ w ∈ wsX50, w ∈ wsX5_may := by decide +kernel
set_option maxHeartbeats 4000000 in
set_option maxRecDepth 100000 in
theorem k_X5_may (l : Launch) (D : va_G) (cI cR cS cL : ClassId) (q : Nat → Nat) (v : Nat → Nat → Nat) (b : Nat) (so : Nat) (a : Nat) (hI : m_I b (v 1)) (hb : b < 2 ^ 28) (hso : so = 99 ∨ so = 100 ∨ so = 119 ∨ so = 98 ∨ so = 108) (hga : (so = 99 ∨ so = 100 → a < 3) ∧ (so = 119 → a < 5) ∧ (so = 98 ∨ so = 108 → a < 4)) : Met l yX5_may wsX5_may ({ frames := 2, cells := 0, slots := 0, locals := 43 }) (va_Pc [.ref (q 0), .int (nI so), .int (nI a)] (o_R D (o_T cI cR cS cL) (wM q cI v))) (vp_Si (fun rz => rz = nI (bn (m_may (v 1) so a)))) 0 0 (fun _ => False) := by
  refine Met.ofW (cc := cX5_may) (maxL := 3) (ret := (some .boolean)) (by decide) rfl ?_
  intro p e s m args below meth cd s₁ B hml hv
  obtain ⟨rfl, hP, hK, hN⟩ := hv
  have hx := B.exec
  have hb := B.bytes
  have hrt := B.returns
  have hts := atoms_spec (ws := wsX5_may) B.pre
  have hown : s.vm.findClass RX5 = some m.cls := findClass_of_methodNamed B.named
  have hlocks := B.notSynchronized
  have hl := lv_entry ([.ref (q 0), .int (nI so), .int (nI a)]) (n := 3) (Nat.le_of_ble_eq_true rfl)
  rw [lg_entry_eq]
  generalize (lg_sl ([.ref (q 0), .int (nI so), .int (nI a)]) ++ List.replicate (3 - (lg_sl ([.ref (q 0), .int (nI so), .int (nI a)])).length) Slot.unset).toArray = ls at hl ⊢
  have hl : lv_has ls 3 [(0, .ref (q 0)), (1, .int (nI so)), (2, .int (nI a))] := hl
  rcases hso with rfl | rfl | rfl | rfl | rfl
  · skip
    have hIc := hI
    obtain ⟨⟨i1, hw, i3, i4, i5⟩, ⟨i6, i7, i8, i9, i10⟩, i11⟩ := hI
    refine lv_iload_n hx hb dX5_may_0 rfl (lv_at hl 1 rfl) ?_
    refine lv_lookup (tgt := 44) (off := 43) hx hb dX5_may_1 (by decide) (by decide) (by decide) ?_
    refine lv_aload_n hx hb dX5_may_44 rfl (lv_at hl 0 rfl) ?_
    refine lv_iload_n hx hb dX5_may_45 rfl (lv_at hl 2 rfl) ?_
    refine o_ri (va_runV (As := [.int (nI a)]) (rest := []) ⟨hx, hb, hml, hown, hts⟩ (k_X5_mode l D cI cR cS cL q v a (by show a < 3; first | assumption | omega) (by show ∀ k, v 1 k < 2 ^ 32; first | assumption | omega) (by show v 1 4 < 2 ^ 31; first | assumption | omega)) (cwV 1 hts gX5_may_X5_mode rfl rfl rfl (by decide +kernel) ⟨Nat.le_of_ble_eq_true rfl, Nat.le_of_ble_eq_true rfl⟩) (o_v (o_pR hK hN hP) (va_recv hK hP (ci := 5) (q0 := 0) rfl rfl)) rfl rfl hl.1 rfl (lv_room (Nat.le_of_ble_eq_true rfl)) dX5_may_46 ⟨Nat.zero_le _, Nat.zero_le _⟩) (fun r_2 e_1 => ?_)
    have e_1 : r_2 = nI (m_mode (v 1) a) := e_1
    subst e_1
    have gv_3 := m_mode_le (v 1) a
    refine o_if_ne (tgt := 56) hx hb dX5_may_49 (by decide) (by omega) (fun c_4 => ?_) (fun c_4 => ?_)
    · skip
      refine o_const (k := 0) hx hb dX5_may_56 (by decide) ?_
      exact W.zret (v := nI 0) hx hb hrt rfl (fun t ht hW => ⟨_, rfl, (congrArg nI (Eq.symm (bn_f (by unfold m_may; omega)))), ht⟩) (fun _ h => nomatch h) dX5_may_57
    · skip
      refine o_const (k := 1) hx hb dX5_may_52 (by decide) ?_
      refine lv_goto (tgt := 57) hx hb dX5_may_53 (by decide) ?_
      exact W.zret (v := nI 1) hx hb hrt rfl (fun t ht hW => ⟨_, rfl, (congrArg nI (Eq.symm (bn_t (by unfold m_may; omega)))), ht⟩) (fun _ h => nomatch h) dX5_may_57
  · skip
    have hIc := hI
    obtain ⟨⟨i1, hw, i3, i4, i5⟩, ⟨i6, i7, i8, i9, i10⟩, i11⟩ := hI
    refine lv_iload_n hx hb dX5_may_0 rfl (lv_at hl 1 rfl) ?_
    refine lv_lookup (tgt := 58) (off := 57) hx hb dX5_may_1 (by decide) (by decide) (by decide) ?_
    refine lv_aload_n hx hb dX5_may_58 rfl (lv_at hl 0 rfl) ?_
    refine lv_iload_n hx hb dX5_may_59 rfl (lv_at hl 2 rfl) ?_
    refine o_ri (va_runV (As := [.int (nI a)]) (rest := []) ⟨hx, hb, hml, hown, hts⟩ (k_X5_mode l D cI cR cS cL q v a (by show a < 3; first | assumption | omega) (by show ∀ k, v 1 k < 2 ^ 32; first | assumption | omega) (by show v 1 4 < 2 ^ 31; first | assumption | omega)) (cwV 1 hts gX5_may_X5_mode rfl rfl rfl (by decide +kernel) ⟨Nat.le_of_ble_eq_true rfl, Nat.le_of_ble_eq_true rfl⟩) (o_v (o_pR hK hN hP) (va_recv hK hP (ci := 5) (q0 := 0) rfl rfl)) rfl rfl hl.1 rfl (lv_room (Nat.le_of_ble_eq_true rfl)) dX5_may_60 ⟨Nat.zero_le _, Nat.zero_le _⟩) (fun r_6 e_5 => ?_)
    have e_5 : r_6 = nI (m_mode (v 1) a) := e_5
    subst e_5
    have gv_7 := m_mode_le (v 1) a
    refine o_const (k := 1) hx hb dX5_may_63 (by decide) ?_
    refine o_icmp_ne (tgt := 71) hx hb dX5_may_64 (by decide) (by omega) (Nat.le_of_ble_eq_true rfl) (fun c_8 => ?_) (fun c_8 => ?_)
    · skip
      refine o_const (k := 0) hx hb dX5_may_71 (by decide) ?_
      exact W.zret (v := nI 0) hx hb hrt rfl (fun t ht hW => ⟨_, rfl, (congrArg nI (Eq.symm (bn_f (by unfold m_may; omega)))), ht⟩) (fun _ h => nomatch h) dX5_may_72
    · skip
      refine o_const (k := 1) hx hb dX5_may_67 (by decide) ?_
      refine lv_goto (tgt := 72) hx hb dX5_may_68 (by decide) ?_
      exact W.zret (v := nI 1) hx hb hrt rfl (fun t ht hW => ⟨_, rfl, (congrArg nI (Eq.symm (bn_t (by unfold m_may; omega)))), ht⟩) (fun _ h => nomatch h) dX5_may_72
  · skip
    have hIc := hI
    obtain ⟨⟨i1, hw, i3, i4, i5⟩, ⟨i6, i7, i8, i9, i10⟩, i11⟩ := hI
    refine lv_iload_n hx hb dX5_may_0 rfl (lv_at hl 1 rfl) ?_
    refine lv_lookup (tgt := 73) (off := 72) hx hb dX5_may_1 (by decide) (by decide) (by decide) ?_
    refine lv_aload_n hx hb dX5_may_73 rfl (lv_at hl 0 rfl) ?_
    refine va_get (D := D) (ci := 5) (v := .ref (q 1)) (C := RX5) (T := TX5) (N := 10) hx hb hts inX5_may_X5 hown hK hP 0 rfl rfl 0 (by decide) (hts (.fieldLink RX5 7 "OddNoticeModel" "now" "[I") (List.mem_of_getElem? (i := 1) (by decide +kernel))) (fun _ h9 => h9) rfl dX5_may_74 ?_
    refine o_const (k := 3) hx hb dX5_may_77 (by decide) ?_
    refine o_iald (v := nI (v 1 3)) hx hb hK hP 1 0 rfl rfl (Nat.le_of_ble_eq_true rfl) (Nat.le_of_ble_eq_true rfl) rfl dX5_may_78 ?_
    have f_9 := hw 3
    refine o_const (k := 4294967295) hx hb dX5_may_79 (by decide) ?_
    refine o_icmp_eq (tgt := 87) hx hb dX5_may_80 (by decide) (by omega) (Nat.le_of_ble_eq_true rfl) (fun c_10 => ?_) (fun c_10 => ?_)
    · skip
      refine o_const (k := 0) hx hb dX5_may_87 (by decide) ?_
      exact W.zret (v := nI 0) hx hb hrt rfl (fun t ht hW => ⟨_, rfl, (congrArg nI (Eq.symm (bn_f (by unfold m_may; omega)))), ht⟩) (fun _ h => nomatch h) dX5_may_88
    · skip
      refine o_const (k := 1) hx hb dX5_may_83 (by decide) ?_
      refine lv_goto (tgt := 88) hx hb dX5_may_84 (by decide) ?_
      exact W.zret (v := nI 1) hx hb hrt rfl (fun t ht hW => ⟨_, rfl, (congrArg nI (Eq.symm (bn_t (by unfold m_may; omega)))), ht⟩) (fun _ h => nomatch h) dX5_may_88
  · skip
    have hIc := hI
    obtain ⟨⟨i1, hw, i3, i4, i5⟩, ⟨i6, i7, i8, i9, i10⟩, i11⟩ := hI
    have i12 := i11 a (by omega)
    refine lv_iload_n hx hb dX5_may_0 rfl (lv_at hl 1 rfl) ?_
    refine lv_lookup (tgt := 89) (off := 88) hx hb dX5_may_1 (by decide) (by decide) (by decide) ?_
    refine lv_aload_n hx hb dX5_may_89 rfl (lv_at hl 0 rfl) ?_
    refine lv_iload_n hx hb dX5_may_90 rfl (lv_at hl 2 rfl) ?_
    refine o_ri (va_runV (As := [.int (nI a)]) (rest := []) ⟨hx, hb, hml, hown, hts⟩ (k_X5_ofReading l D cI cR cS cL q v a (by show a < 4; first | assumption | omega) (by show ∀ k, v 1 k < 2 ^ 32; first | assumption | omega) (by show v 1 1 < 2 ^ 31; first | assumption | omega) (by show v 1 (15 + 17 * a + 3) < 2 ^ 31; first | assumption | omega)) (cwV 1 hts gX5_may_X5_ofReading rfl rfl rfl (by decide +kernel) ⟨Nat.le_of_ble_eq_true rfl, Nat.le_of_ble_eq_true rfl⟩) (o_v (o_pR hK hN hP) (va_recv hK hP (ci := 5) (q0 := 0) rfl rfl)) rfl rfl hl.1 rfl (lv_room (Nat.le_of_ble_eq_true rfl)) dX5_may_91 ⟨Nat.zero_le _, Nat.zero_le _⟩) (fun r_12 e_11 => ?_)
    have e_11 : r_12 = nI (m_ofr (v 1) a) := e_11
    subst e_11
    have gv_13 := m_ofr_le (v 1) a
    refine o_if_ne (tgt := 101) hx hb dX5_may_94 (by decide) (by omega) (fun c_14 => ?_) (fun c_14 => ?_)
    · skip
      refine o_const (k := 0) hx hb dX5_may_101 (by decide) ?_
      exact W.zret (v := nI 0) hx hb hrt rfl (fun t ht hW => ⟨_, rfl, (congrArg nI (Eq.symm (bn_f (by unfold m_may; omega)))), ht⟩) (fun _ h => nomatch h) dX5_may_102
    · skip
      refine o_const (k := 1) hx hb dX5_may_97 (by decide) ?_
      refine lv_goto (tgt := 102) hx hb dX5_may_98 (by decide) ?_
      exact W.zret (v := nI 1) hx hb hrt rfl (fun t ht hW => ⟨_, rfl, (congrArg nI (Eq.symm (bn_t (by unfold m_may; omega)))), ht⟩) (fun _ h => nomatch h) dX5_may_102
  · skip
    have hIc := hI
    obtain ⟨⟨i1, hw, i3, i4, i5⟩, ⟨i6, i7, i8, i9, i10⟩, i11⟩ := hI
    have i12 := i11 a (by omega)
    refine lv_iload_n hx hb dX5_may_0 rfl (lv_at hl 1 rfl) ?_
    refine lv_lookup (tgt := 103) (off := 102) hx hb dX5_may_1 (by decide) (by decide) (by decide) ?_
    refine lv_aload_n hx hb dX5_may_103 rfl (lv_at hl 0 rfl) ?_
    refine lv_iload_n hx hb dX5_may_104 rfl (lv_at hl 2 rfl) ?_
    refine o_ri (va_runV (As := [.int (nI a)]) (rest := []) ⟨hx, hb, hml, hown, hts⟩ (k_X5_ofReading l D cI cR cS cL q v a (by show a < 4; first | assumption | omega) (by show ∀ k, v 1 k < 2 ^ 32; first | assumption | omega) (by show v 1 1 < 2 ^ 31; first | assumption | omega) (by show v 1 (15 + 17 * a + 3) < 2 ^ 31; first | assumption | omega)) (cwV 1 hts gX5_may_X5_ofReading rfl rfl rfl (by decide +kernel) ⟨Nat.le_of_ble_eq_true rfl, Nat.le_of_ble_eq_true rfl⟩) (o_v (o_pR hK hN hP) (va_recv hK hP (ci := 5) (q0 := 0) rfl rfl)) rfl rfl hl.1 rfl (lv_room (Nat.le_of_ble_eq_true rfl)) dX5_may_105 ⟨Nat.zero_le _, Nat.zero_le _⟩) (fun r_16 e_15 => ?_)
    have e_15 : r_16 = nI (m_ofr (v 1) a) := e_15
    subst e_15
    have gv_17 := m_ofr_le (v 1) a
    refine o_const (k := 1) hx hb dX5_may_108 (by decide) ?_
    refine o_icmp_ne (tgt := 116) hx hb dX5_may_109 (by decide) (by omega) (Nat.le_of_ble_eq_true rfl) (fun c_18 => ?_) (fun c_18 => ?_)
    · skip
      refine o_const (k := 0) hx hb dX5_may_116 (by decide) ?_
      exact W.zret (v := nI 0) hx hb hrt rfl (fun t ht hW => ⟨_, rfl, (congrArg nI (Eq.symm (bn_f (by unfold m_may; omega)))), ht⟩) (fun _ h => nomatch h) dX5_may_117
    · skip
      refine o_const (k := 1) hx hb dX5_may_112 (by decide) ?_
      refine lv_goto (tgt := 117) hx hb dX5_may_113 (by decide) ?_
      exact W.zret (v := nI 1) hx hb hrt rfl (fun t ht hW => ⟨_, rfl, (congrArg nI (Eq.symm (bn_t (by unfold m_may; omega)))), ht⟩) (fun _ h => nomatch h) dX5_may_117
theorem inX5_does_X5 : ∀ w ∈ wsX50, w ∈ wsX5_does := by decide +kernel
set_option maxHeartbeats 4000000 in
set_option maxRecDepth 100000 in
theorem k_X5_does (l : Launch) (D : va_G) (cI cR cS cL : ClassId) (sz : Nat) (q : Nat → Nat) (v : Nat → Nat → Nat) (b : Nat) (so : Nat) (a : Nat) (x : Nat) (hI : m_I b (v 1)) (hb : b < 2 ^ 28) (hso : so = 99 ∨ so = 100 ∨ so = 119 ∨ so = 98 ∨ so = 108) (hga : (so = 99 ∨ so = 100 → a < 3) ∧ (so = 119 → a < 5) ∧ (so = 98 ∨ so = 108 → a < 4)) (hm : m_may (v 1) so a) : Met l yX5_does wsX5_does ({ frames := 4, cells := 0, slots := 0, locals := 93 }) (va_Pc [.ref (q 0), .int (nI so), .int (nI a), .int (nI x)] (o_B D (o_T cI cR cS cL) (wM q cI v) sz)) (va_Qv (fun (_ : Unit) => True) (fun (_ : Unit) t => va_P D vwCl (wM q cI (va_up v 1 (m_does (v 1) so a x))) t.heap) (va_A (wM q cI v) sz)) 0 0 (va_A (wM q cI v) sz) := by
  refine Met.ofW (cc := cX5_does) (maxL := 4) (ret := none) (by decide) rfl ?_
  intro p e s m args below meth cd s₁ B hml hv
  obtain ⟨rfl, hsz, hP, hK, hD0, hN⟩ := hv
  have hx := B.exec
  have hb := B.bytes
  have hrt := B.returns
  have hts := atoms_spec (ws := wsX5_does) B.pre
  have hown : s.vm.findClass RX5 = some m.cls := findClass_of_methodNamed B.named
  have hlocks := B.notSynchronized
  subst hsz
  have hD := hD0.self (sz := s.heap.size)
  generalize hAe : va_A (wM q cI v) s.heap.size = A at hD ⊢
  have hA : ∀ q : Nat, s.heap.size ≤ q → A q := fun q h => by rw [← hAe]; exact Or.inr h
  have hS : va_S A s.heap s.heap [] := va_S.rf
  have hl := lv_entry ([.ref (q 0), .int (nI so), .int (nI a), .int (nI x)]) (n := 4) (Nat.le_of_ble_eq_true rfl)
  rw [lg_entry_eq]
  generalize (lg_sl ([.ref (q 0), .int (nI so), .int (nI a), .int (nI x)]) ++ List.replicate (4 - (lg_sl ([.ref (q 0), .int (nI so), .int (nI a), .int (nI x)])).length) Slot.unset).toArray = ls at hl ⊢
  have hl : lv_has ls 4 [(0, .ref (q 0)), (1, .int (nI so)), (2, .int (nI a)), (3, .int (nI x))] := hl
  rcases hso with rfl | rfl | rfl | rfl | rfl
  · skip
    have hIc := hI
    obtain ⟨⟨i1, hw, i3, i4, i5⟩, ⟨i6, i7, i8, i9, i10⟩, i11⟩ := hI
    have i13 := m_w4 hIc (show a < 3 by omega) (show m_mode (v 1) a = 0 by unfold m_may at hm; omega)
    refine lv_iload_n hx hb dX5_does_0 rfl (lv_at hl 1 rfl) ?_
    refine lv_lookup (tgt := 44) (off := 43) hx hb dX5_does_1 (by decide) (by decide) (by decide) ?_
    refine lv_aload_n hx hb dX5_does_44 rfl (lv_at hl 0 rfl) ?_
    refine lv_iload_n hx hb dX5_does_45 rfl (lv_at hl 2 rfl) ?_
    refine o_wi (va_runV (As := [.int (nI a)]) (rest := []) ⟨hx, hb, hml, hown, hts⟩ (k_X5_comes l D cI cR cS cL s.heap.size q v a (by show v 1 0 < 2 ^ 31; first | assumption | omega) (by show v 1 4 < 2; first | assumption | omega)) (cwV 1 hts gX5_does_X5_comes rfl rfl rfl (by decide +kernel) ⟨Nat.le_of_ble_eq_true rfl, Nat.le_of_ble_eq_true rfl⟩) (o_v (o_pB hK hN hP hD) (va_recv hK hP (ci := 5) (q0 := 0) rfl rfl)) rfl rfl hl.1 rfl (lv_room (Nat.le_of_ble_eq_true rfl)) dX5_does_46 ⟨Nat.zero_le _, Nat.zero_le _⟩) hP hD hS hA [0, 1, 2, 3, 4] (by decide) rfl (fun _ => rfl) (fun r_2 _ H locs e_1 hP hD hS => ?_)
    have e_1 : r_2 = nI (m_comesr (v 1)) := e_1
    subst e_1
    have hP : va_P D vwCl (wM q cI (va_up v 1 (m_comes (v 1) a))) H := hP
    have hD : va_D A (wM q cI (va_up v 1 (m_comes (v 1) a))) := hD
    refine lv_pop hx hb dX5_does_49 rfl ?_
    refine lv_goto (tgt := 90) hx hb dX5_does_50 (by decide) ?_
    have w_3 : (wM q cI (va_up v 1 (m_does (v 1) 99 a x))) = (wM q cI (va_up v 1 (m_comes (v 1) a))) := (by unfold m_does; rw [if_pos rfl]; first | done | rfl)
    rw [← w_3] at hP
    exact W.vret hx hb hrt (fun t ht hW => ⟨⟨(), rfl, trivial, by show va_P D vwCl _ t.heap; rw [ht]; exact hP⟩, hS.F ht⟩) hS.2.2 dX5_does_90
  · skip
    have hIc := hI
    obtain ⟨⟨i1, hw, i3, i4, i5⟩, ⟨i6, i7, i8, i9, i10⟩, i11⟩ := hI
    refine lv_iload_n hx hb dX5_does_0 rfl (lv_at hl 1 rfl) ?_
    refine lv_lookup (tgt := 53) (off := 52) hx hb dX5_does_1 (by decide) (by decide) (by decide) ?_
    refine lv_aload_n hx hb dX5_does_53 rfl (lv_at hl 0 rfl) ?_
    refine lv_iload_n hx hb dX5_does_54 rfl (lv_at hl 2 rfl) ?_
    refine o_wi (va_runV (As := [.int (nI a)]) (rest := []) ⟨hx, hb, hml, hown, hts⟩ (k_X5_ends l D cI cR cS cL s.heap.size q v a (by show a < 3; first | assumption | omega) (by show v 1 0 < 2 ^ 30; first | assumption | omega) (by show v 1 4 < 2 ^ 31; first | assumption | omega)) (cwV 1 hts gX5_does_X5_ends rfl rfl rfl (by decide +kernel) ⟨Nat.le_of_ble_eq_true rfl, Nat.le_of_ble_eq_true rfl⟩) (o_v (o_pB hK hN hP hD) (va_recv hK hP (ci := 5) (q0 := 0) rfl rfl)) rfl rfl hl.1 rfl (lv_room (Nat.le_of_ble_eq_true rfl)) dX5_does_55 ⟨Nat.zero_le _, Nat.zero_le _⟩) hP hD hS hA [0, 1, 2, 3, 4] (by decide) rfl (fun _ => rfl) (fun r_5 _ H locs e_4 hP hD hS => ?_)
    have e_4 : r_5 = nI ((v 1 0 + 1) / 2) := e_4
    subst e_4
    have hP : va_P D vwCl (wM q cI (va_up v 1 (m_ends (v 1) a))) H := hP
    have hD : va_D A (wM q cI (va_up v 1 (m_ends (v 1) a))) := hD
    refine lv_pop hx hb dX5_does_58 rfl ?_
    refine lv_goto (tgt := 90) hx hb dX5_does_59 (by decide) ?_
    have w_6 : (wM q cI (va_up v 1 (m_does (v 1) 100 a x))) = (wM q cI (va_up v 1 (m_ends (v 1) a))) := (by unfold m_does; rw [if_neg (by decide), if_pos rfl]; first | done | rfl)
    rw [← w_6] at hP
    exact W.vret hx hb hrt (fun t ht hW => ⟨⟨(), rfl, trivial, by show va_P D vwCl _ t.heap; rw [ht]; exact hP⟩, hS.F ht⟩) hS.2.2 dX5_does_90
  · skip
    have hIc := hI
    obtain ⟨⟨i1, hw, i3, i4, i5⟩, ⟨i6, i7, i8, i9, i10⟩, i11⟩ := hI
    refine lv_iload_n hx hb dX5_does_0 rfl (lv_at hl 1 rfl) ?_
    refine lv_lookup (tgt := 62) (off := 61) hx hb dX5_does_1 (by decide) (by decide) (by decide) ?_
    refine lv_aload_n hx hb dX5_does_62 rfl (lv_at hl 0 rfl) ?_
    refine va_get (D := D) (ci := 5) (v := .ref (q 1)) (C := RX5) (T := TX5) (N := 10) hx hb hts inX5_does_X5 hown hK hP 0 rfl rfl 0 (by decide) (hts (.fieldLink RX5 7 "OddNoticeModel" "now" "[I") (List.mem_of_getElem? (i := 1) (by decide +kernel))) (fun _ h9 => h9) rfl dX5_does_63 ?_
    refine o_bipush (k := 7) hx hb dX5_does_66 (by decide) ?_
    refine lv_iload_n hx hb dX5_does_68 rfl (lv_at hl 2 rfl) ?_
    refine o_iadd (a := 7) (b := a) (k := (7 + a)) hx hb dX5_does_69 rfl ?_
    refine lv_iload_n hx hb dX5_does_70 rfl (lv_at hl 3 rfl) ?_
    refine o_iast (g := (v 1)) hx hb hK hP hD hS 1 0 rfl rfl (by omega) (Nat.le_of_ble_eq_true rfl) dX5_does_71 (fun H locs hP hD hS => ?_)
    have hP : va_P D vwCl (wM q cI (va_up v 1 (va_up (v 1) (7 + a) x))) H := hP
    have hD : va_D A (wM q cI (va_up v 1 (va_up (v 1) (7 + a) x))) := hD
    refine lv_goto (tgt := 90) hx hb dX5_does_72 (by decide) ?_
    have w_7 : (wM q cI (va_up v 1 (m_does (v 1) 119 a x))) = (wM q cI (va_up v 1 (va_up (v 1) (7 + a) x))) := (by unfold m_does; rw [if_neg (by decide), if_neg (by decide), if_pos rfl]; first | done | rfl)
    rw [← w_7] at hP
    exact W.vret hx hb hrt (fun t ht hW => ⟨⟨(), rfl, trivial, by show va_P D vwCl _ t.heap; rw [ht]; exact hP⟩, hS.F ht⟩) hS.2.2 dX5_does_90
  · skip
    have hIc := hI
    obtain ⟨⟨i1, hw, i3, i4, i5⟩, ⟨i6, i7, i8, i9, i10⟩, i11⟩ := hI
    have i12 := i11 a (by omega)
    refine lv_iload_n hx hb dX5_does_0 rfl (lv_at hl 1 rfl) ?_
    refine lv_lookup (tgt := 75) (off := 74) hx hb dX5_does_1 (by decide) (by decide) (by decide) ?_
    refine lv_aload_n hx hb dX5_does_75 rfl (lv_at hl 0 rfl) ?_
    refine lv_iload_n hx hb dX5_does_76 rfl (lv_at hl 2 rfl) ?_
    refine o_wi (va_runV (As := [.int (nI a)]) (rest := []) ⟨hx, hb, hml, hown, hts⟩ (k_X5_begins l D cI cR cS cL s.heap.size q v a (by show a < 4; first | assumption | omega) (by show ∀ k, v 1 k < 2 ^ 32; first | assumption | omega) (by show v 1 0 < 2 ^ 31; first | assumption | omega)) (cwV 1 hts gX5_does_X5_begins rfl rfl rfl (by decide +kernel) ⟨Nat.le_of_ble_eq_true rfl, Nat.le_of_ble_eq_true rfl⟩) (o_v (o_pB hK hN hP hD) (va_recv hK hP (ci := 5) (q0 := 0) rfl rfl)) rfl rfl hl.1 rfl (lv_room (Nat.le_of_ble_eq_true rfl)) dX5_does_77 ⟨Nat.zero_le _, Nat.zero_le _⟩) hP hD hS hA [0, 1, 2, 3, 4] (by decide) rfl (fun _ => rfl) (fun r_9 _ H locs e_8 hP hD hS => ?_)
    have e_8 : r_9 = nI (m_beginsr (v 1) a) := e_8
    subst e_8
    have hP : va_P D vwCl (wM q cI (va_up v 1 (m_begins (v 1) a))) H := hP
    have hD : va_D A (wM q cI (va_up v 1 (m_begins (v 1) a))) := hD
    refine lv_pop hx hb dX5_does_80 rfl ?_
    refine lv_goto (tgt := 90) hx hb dX5_does_81 (by decide) ?_
    have w_10 : (wM q cI (va_up v 1 (m_does (v 1) 98 a x))) = (wM q cI (va_up v 1 (m_begins (v 1) a))) := (by unfold m_does; rw [if_neg (by decide), if_neg (by decide), if_neg (by decide), if_pos rfl]; first | done | rfl)
    rw [← w_10] at hP
    exact W.vret hx hb hrt (fun t ht hW => ⟨⟨(), rfl, trivial, by show va_P D vwCl _ t.heap; rw [ht]; exact hP⟩, hS.F ht⟩) hS.2.2 dX5_does_90
  · skip
    have hIc := hI
    obtain ⟨⟨i1, hw, i3, i4, i5⟩, ⟨i6, i7, i8, i9, i10⟩, i11⟩ := hI
    have i12 := i11 a (by omega)
    refine lv_iload_n hx hb dX5_does_0 rfl (lv_at hl 1 rfl) ?_
    refine lv_lookup (tgt := 84) (off := 83) hx hb dX5_does_1 (by decide) (by decide) (by decide) ?_
    refine lv_aload_n hx hb dX5_does_84 rfl (lv_at hl 0 rfl) ?_
    refine lv_iload_n hx hb dX5_does_85 rfl (lv_at hl 2 rfl) ?_
    refine o_wi (va_runV (As := [.int (nI a)]) (rest := []) ⟨hx, hb, hml, hown, hts⟩ (k_X5_looks l D cI cR cS cL s.heap.size q v a (by show a < 4; first | assumption | omega) (by show ∀ k, v 1 k < 2 ^ 32; first | assumption | omega) (by show v 1 0 < 2 ^ 30; first | assumption | omega) (by show v 1 (15 + 17 * a + 5) < 2 ^ 31; first | assumption | omega) (by show v 1 (15 + 17 * a + 2) ≤ 5; first | assumption | omega)) (cwV 1 hts gX5_does_X5_looks rfl rfl rfl (by decide +kernel) ⟨Nat.le_of_ble_eq_true rfl, Nat.le_of_ble_eq_true rfl⟩) (o_v (o_pB hK hN hP hD) (va_recv hK hP (ci := 5) (q0 := 0) rfl rfl)) rfl rfl hl.1 rfl (lv_room (Nat.le_of_ble_eq_true rfl)) dX5_does_86 ⟨Nat.zero_le _, Nat.zero_le _⟩) hP hD hS hA [0, 1, 2, 3, 4] (by decide) rfl (fun _ => rfl) (fun r_12 _ H locs e_11 hP hD hS => ?_)
    have e_11 : r_12 = nI (m_looksr (v 1) a) := e_11
    subst e_11
    have hP : va_P D vwCl (wM q cI (va_up v 1 (m_looks (v 1) a))) H := hP
    have hD : va_D A (wM q cI (va_up v 1 (m_looks (v 1) a))) := hD
    refine lv_pop hx hb dX5_does_89 rfl ?_
    have w_13 : (wM q cI (va_up v 1 (m_does (v 1) 108 a x))) = (wM q cI (va_up v 1 (m_looks (v 1) a))) := (by unfold m_does; rw [if_neg (by decide), if_neg (by decide), if_neg (by decide), if_neg (by decide)]; first | done | rfl)
    rw [← w_13] at hP
    exact W.vret hx hb hrt (fun t ht hW => ⟨⟨(), rfl, trivial, by show va_P D vwCl _ t.heap; rw [ht]; exact hP⟩, hS.F ht⟩) hS.2.2 dX5_does_90
theorem inX5_play_X5 : ∀ w ∈ wsX50, w ∈ wsX5_play := by decide +kernel
set_option maxHeartbeats 4000000 in
set_option maxRecDepth 100000 in
theorem k_X5_play (l : Launch) (D : va_G) (cI cR cS cL : ClassId) (sz : Nat) (q : Nat → Nat) (v : Nat → Nat → Nat) (TX : Nat × Nat × Nat × (Nat → Nat) × Nat) (b : Nat) (hI : m_I b (v 1)) (hb : b < 2 ^ 27) (hs : v 0 0 ≤ 6) (h2 : v 0 1 ≤ 60) (ht : ∀ k, v 3 k < 2 ^ 31) (hTX : m_tx (v 3) (v 0 1) 61 0 0 (v 4) = TX) : Met l yX5_play wsX5_play ({ frames := 5, cells := 0, slots := 0, locals := 116 }) (va_Pc [.ref (q 0)] (o_B D (o_T cI cR cS cL) (wM q cI v) sz)) (va_Qi (fun rz (_ : Unit) => rz = nI (if TX.2.2.2.2 = 1 then (m_run TX.2.2.2.1 TX.2.2.1 31 0 (v 1)).2 else 0)) (fun (_ : Unit) t => va_P D vwCl (wM q cI (m_played v TX)) t.heap) (va_A (wM q cI v) sz)) 0 0 (va_A (wM q cI v) sz) := by
  refine Met.ofW (cc := cX5_play) (maxL := 2) (ret := (some .int)) (by decide) rfl ?_
  intro p e s m args below meth cd s₁ B hml hv
  obtain ⟨rfl, hsz, hP, hK, hD0, hN⟩ := hv
  have hx := B.exec
  have hb := B.bytes
  have hrt := B.returns
  have hts := atoms_spec (ws := wsX5_play) B.pre
  have hown : s.vm.findClass RX5 = some m.cls := findClass_of_methodNamed B.named
  have hlocks := B.notSynchronized
  subst hsz
  have hD := hD0.self (sz := s.heap.size)
  generalize hAe : va_A (wM q cI v) s.heap.size = A at hD ⊢
  have hA : ∀ q : Nat, s.heap.size ≤ q → A q := fun q h => by rw [← hAe]; exact Or.inr h
  have hS : va_S A s.heap s.heap [] := va_S.rf
  have hl := lv_entry ([.ref (q 0)]) (n := 2) (Nat.le_of_ble_eq_true rfl)
  rw [lg_entry_eq]
  generalize (lg_sl ([.ref (q 0)]) ++ List.replicate (2 - (lg_sl ([.ref (q 0)])).length) Slot.unset).toArray = ls at hl ⊢
  have hl : lv_has ls 2 [(0, .ref (q 0))] := hl
  have htl := m_tx_le (v 3) (v 0 1) 61 0 0 (v 4)
  have htg := m_tx_good (tx := v 3) (len := v 0 1) 61 0 0 (v 4) (by omega) (by omega) (fun k hk => absurd hk (Nat.not_lt_zero _))
  rw [hTX] at htl htg
  refine lv_aload_n hx hb dX5_play_0 rfl (lv_at hl 0 rfl) ?_
  refine o_const (k := 0) hx hb dX5_play_1 (by decide) ?_
  refine va_put (D := D) (ci := 5) (v := .int (nI 0)) (ty := .int) (C := RX5) (T := TX5) (N := 10) hx hb hts inX5_play_X5 tyX5 tyX5_ok nmX5 hown hK hP hD hS 0 rfl rfl 5 (by decide) (hts (.fieldLink RX5 22 "OddNoticeModel" "thrown" "I") (List.mem_of_getElem? (i := 1) (by decide +kernel))) (fun _ h9 => h9) rfl (by decide +kernel) rfl rfl (Nat.le_of_ble_eq_true rfl) dX5_play_2 (fun H locs hP hD hS => ?_)
  have hP : va_P D vwCl (wM q cI (va_up v 0 (va_up (v 0) 2 0))) H := hP
  have hD : va_D A (wM q cI (va_up v 0 (va_up (v 0) 2 0))) := hD
  refine lv_aload_n hx hb dX5_play_5 rfl (lv_at hl 0 rfl) ?_
  refine o_wi (va_runV (As := []) (rest := []) ⟨hx, hb, hml, hown, hts⟩ (k_X5_isText l D cI cR cS cL H.size q (va_up v 0 (va_up (v 0) 2 0)) TX (by show v 0 1 ≤ 60; first | assumption | omega) (by show ∀ k, v 3 k < 2 ^ 31; first | assumption | omega) (hTX)) (cwV 0 hts gX5_play_X5_isText rfl rfl rfl (by decide +kernel) ⟨Nat.le_of_ble_eq_true rfl, Nat.le_of_ble_eq_true rfl⟩) (o_v (o_pB hK hN hP hD) (va_recv hK hP (ci := 5) (q0 := 0) rfl rfl)) rfl rfl hl.1 rfl (lv_room (Nat.le_of_ble_eq_true rfl)) dX5_play_6 ⟨Nat.zero_le _, Nat.zero_le _⟩) hP hD hS hA [0, 1, 2, 3, 4] (by decide) rfl (fun _ => rfl) (fun r_2 _ H locs e_1 hP hD hS => ?_)
  have e_1 : r_2 = nI TX.2.2.2.2 := e_1
  subst e_1
  have hP : va_P D vwCl (wM q cI (va_up (va_up v 0 (va_up (va_up (va_up (va_up (v 0) 2 0) 3 TX.1) 4 TX.2.1) 5 TX.2.2.1)) 4 TX.2.2.2.1)) H := hP
  have hD : va_D A (wM q cI (va_up (va_up v 0 (va_up (va_up (va_up (va_up (v 0) 2 0) 3 TX.1) 4 TX.2.1) 5 TX.2.2.1)) 4 TX.2.2.2.1)) := hD
  refine o_if_ne (tgt := 18) hx hb dX5_play_9 (by decide) (by omega) (fun c_3 => ?_) (fun c_3 => ?_)
  · skip
    have htg2 := (htg (by omega)).2
    have htg3 := (htg (by omega)).1
    refine lv_aload_n hx hb dX5_play_18 rfl (lv_at hl 0 rfl) ?_
    refine o_wv (va_runV (As := []) (rest := []) ⟨hx, hb, hml, hown, hts⟩ (k_X5_saves l D cI cR cS cL H.size q (va_up (va_up v 0 (va_up (va_up (va_up (va_up (v 0) 2 0) 3 TX.1) 4 TX.2.1) 5 TX.2.2.1)) 4 TX.2.2.2.1) (by show v 0 0 ≤ 6; first | assumption | omega)) (cwV 0 hts gX5_play_X5_saves rfl rfl rfl (by decide +kernel) ⟨Nat.le_of_ble_eq_true rfl, Nat.le_of_ble_eq_true rfl⟩) (o_v (o_pB hK hN hP hD) (va_recv hK hP (ci := 5) (q0 := 0) rfl rfl)) rfl rfl hl.1 rfl (lv_room (Nat.le_of_ble_eq_true rfl)) dX5_play_19 ⟨Nat.zero_le _, Nat.zero_le _⟩) hP hD hS hA [0, 1, 2, 3, 4] (by decide) rfl (fun _ => rfl) (fun _ H locs e_4 hP hD hS => ?_)
    have hP : va_P D vwCl (wM q cI (va_up (va_up (va_up v 0 (va_up (va_up (va_up (va_up (va_up (v 0) 0 (m_svs (v 0 0))) 2 0) 3 TX.1) 4 TX.2.1) 5 TX.2.2.1)) 2 (m_svp (v 0 0) (v 1) (v 2))) 4 TX.2.2.2.1)) H := hP
    have hD : va_D A (wM q cI (va_up (va_up (va_up v 0 (va_up (va_up (va_up (va_up (va_up (v 0) 0 (m_svs (v 0 0))) 2 0) 3 TX.1) 4 TX.2.1) 5 TX.2.2.1)) 2 (m_svp (v 0 0) (v 1) (v 2))) 4 TX.2.2.2.1)) := hD
    refine lv_aload_n hx hb dX5_play_22 rfl (lv_at hl 0 rfl) ?_
    refine o_const (k := 0) hx hb dX5_play_23 (by decide) ?_
    refine va_put (D := D) (ci := 5) (v := .int (nI 0)) (ty := .int) (C := RX5) (T := TX5) (N := 10) hx hb hts inX5_play_X5 tyX5 tyX5_ok nmX5 hown hK hP hD hS 0 rfl rfl 4 (by decide) (hts (.fieldLink RX5 86 "OddNoticeModel" "typed" "I") (List.mem_of_getElem? (i := 2) (by decide +kernel))) (fun _ h9 => h9) rfl (by decide +kernel) rfl rfl (Nat.le_of_ble_eq_true rfl) dX5_play_24 (fun H locs hP hD hS => ?_)
    have hP : va_P D vwCl (wM q cI (va_up (va_up (va_up v 0 (va_up (va_up (va_up (va_up (va_up (va_up (v 0) 0 (m_svs (v 0 0))) 1 0) 2 0) 3 TX.1) 4 TX.2.1) 5 TX.2.2.1)) 2 (m_svp (v 0 0) (v 1) (v 2))) 4 TX.2.2.2.1)) H := hP
    have hD : va_D A (wM q cI (va_up (va_up (va_up v 0 (va_up (va_up (va_up (va_up (va_up (va_up (v 0) 0 (m_svs (v 0 0))) 1 0) 2 0) 3 TX.1) 4 TX.2.1) 5 TX.2.2.1)) 2 (m_svp (v 0 0) (v 1) (v 2))) 4 TX.2.2.2.1)) := hD
    refine o_const (k := 0) hx hb dX5_play_27 (by decide) ?_
    refine lv_istore_n (lv' := [(1, .int (nI 0)), (0, .ref (q 0))]) hx hb dX5_play_28 rfl hl (by decide) rfl (fun ls hl => ?_)
    have lp_1 : ∀ (fu : Nat) (f : Nat) (n : Nat) (w : Nat → Nat), m_run TX.2.2.2.1 TX.2.2.1 f n w = m_run TX.2.2.2.1 TX.2.2.1 31 0 (v 1) → TX.2.2.1 < n + f → n ≤ TX.2.2.1 → m_I (b + n) w → f < fu → ∀ (H : Heap) (locs : List Loc) (hP : va_P D vwCl (wM q cI (va_up (va_up (va_up (va_up v 0 (va_up (va_up (va_up (va_up (va_up (va_up (v 0) 0 (m_svs (v 0 0))) 1 0) 2 0) 3 TX.1) 4 TX.2.1) 5 TX.2.2.1)) 1 w) 2 (m_svp (v 0 0) (v 1) (v 2))) 4 TX.2.2.2.1)) H) (hD : va_D A (wM q cI (va_up (va_up (va_up (va_up v 0 (va_up (va_up (va_up (va_up (va_up (va_up (v 0) 0 (m_svs (v 0 0))) 1 0) 2 0) 3 TX.1) 4 TX.2.1) 5 TX.2.2.1)) 1 w) 2 (m_svp (v 0 0) (v 1) (v 2))) 4 TX.2.2.2.1))) (hS : va_S A s.heap H locs) (ls : Array Slot) (hl : lv_has ls 2 [(1, .int (nI n)), (0, .ref (q 0))]), W p l e (headSpec wsX5_play ({ frames := 5, cells := 0, slots := 0, locals := 116 })).room s m ([.ref (q 0)] : List Value).toArray below meth cd H locs 0 0 (MQ below (va_Qi (fun rz (_ : Unit) => rz = nI (if TX.2.2.2.2 = 1 then (m_run TX.2.2.2.1 TX.2.2.1 31 0 (v 1)).2 else 0)) (fun (_ : Unit) t => va_P D vwCl (wM q cI (m_played v TX)) t.heap) A) ([.ref (q 0)] : List Value).toArray s 0 0 A) (F0 m 29 ls []) := by
      intro fu
      induction fu with
      | zero => intro f n w hE hf hn2 hIw hm; exact absurd hm (Nat.not_lt_zero _)
      | succ fu ih_1 =>
        intro f n w hE hf hn2 hIw hm_1 H locs hP hD hS ls hl
        obtain ⟨g, rfl⟩ : ∃ g, f = g + 1 := ⟨f - 1, by omega⟩
        refine lv_iload_n hx hb dX5_play_29 rfl (lv_at hl 0 rfl) ?_
        refine lv_aload_n hx hb dX5_play_30 rfl (lv_at hl 1 rfl) ?_
        refine va_get (D := D) (ci := 5) (v := .int (nI TX.2.2.1)) (C := RX5) (T := TX5) (N := 10) hx hb hts inX5_play_X5 hown hK hP 0 rfl rfl 9 (by decide) (hts (.fieldLink RX5 106 "OddNoticeModel" "tolds" "I") (List.mem_of_getElem? (i := 3) (by decide +kernel))) (fun _ h9 => h9) rfl dX5_play_31 ?_
        refine o_icmp_ge (tgt := 100) hx hb dX5_play_34 (by decide) (by omega) (by omega) (fun c_5 => ?_) (fun c_5 => ?_)
        · skip
          refine lv_iload_n hx hb dX5_play_100 rfl (lv_at hl 0 rfl) ?_
          have w_6 : (wM q cI (m_played v TX)) = (wM q cI (va_up (va_up (va_up (va_up v 0 (va_up (va_up (va_up (va_up (va_up (va_up (v 0) 0 (m_svs (v 0 0))) 1 0) 2 0) 3 TX.1) 4 TX.2.1) 5 TX.2.2.1)) 1 w) 2 (m_svp (v 0 0) (v 1) (v 2))) 4 TX.2.2.2.1)) := (by unfold m_played; rw [if_pos (by omega), ← hE, m_run_no (fun hz => absurd hz.1 c_5)])
          rw [← w_6] at hP
          exact W.iret (v := nI n) hx hb hrt (fun t ht hW => ⟨⟨_, (), rfl, (congrArg nI (by rw [if_pos (by omega), ← hE, m_run_no (fun hz => absurd hz.1 c_5)])), by show va_P D vwCl _ t.heap; rw [ht]; exact hP⟩, hS.F ht⟩) hS.2.2 dX5_play_101
        · skip
          have hg := htg2 n (by omega)
          refine lv_aload_n hx hb dX5_play_37 rfl (lv_at hl 1 rfl) ?_
          refine lv_aload_n hx hb dX5_play_38 rfl (lv_at hl 1 rfl) ?_
          refine va_get (D := D) (ci := 5) (v := .ref (q 4)) (C := RX5) (T := TX5) (N := 10) hx hb hts inX5_play_X5 hown hK hP 0 rfl rfl 8 (by decide) (hts (.fieldLink RX5 19 "OddNoticeModel" "told" "[I") (List.mem_of_getElem? (i := 4) (by decide +kernel))) (fun _ h9 => h9) rfl dX5_play_39 ?_
          refine o_const (k := 3) hx hb dX5_play_42 (by decide) ?_
          refine lv_iload_n hx hb dX5_play_43 rfl (lv_at hl 0 rfl) ?_
          refine o_imul (a := 3) (b := n) (k := (3 * n)) hx hb dX5_play_44 rfl ?_
          refine o_iald (v := nI (TX.2.2.2.1 (3 * n))) hx hb hK hP 4 0 rfl rfl (by omega) (Nat.le_of_ble_eq_true rfl) rfl dX5_play_45 ?_
          refine lv_aload_n hx hb dX5_play_46 rfl (lv_at hl 1 rfl) ?_
          refine va_get (D := D) (ci := 5) (v := .ref (q 4)) (C := RX5) (T := TX5) (N := 10) hx hb hts inX5_play_X5 hown hK hP 0 rfl rfl 8 (by decide) (hts (.fieldLink RX5 19 "OddNoticeModel" "told" "[I") (List.mem_of_getElem? (i := 4) (by decide +kernel))) (fun _ h9 => h9) rfl dX5_play_47 ?_
          refine o_const (k := 3) hx hb dX5_play_50 (by decide) ?_
          refine lv_iload_n hx hb dX5_play_51 rfl (lv_at hl 0 rfl) ?_
          refine o_imul (a := 3) (b := n) (k := (3 * n)) hx hb dX5_play_52 rfl ?_
          refine o_const (k := 1) hx hb dX5_play_53 (by decide) ?_
          refine o_iadd (a := (3 * n)) (b := 1) (k := (3 * n + 1)) hx hb dX5_play_54 rfl ?_
          refine o_iald (v := nI (TX.2.2.2.1 (3 * n + 1))) hx hb hK hP 4 0 rfl rfl (by omega) (Nat.le_of_ble_eq_true rfl) rfl dX5_play_55 ?_
          refine o_ri (va_runV (As := [.int (nI (TX.2.2.2.1 (3 * n))), .int (nI (TX.2.2.2.1 (3 * n + 1)))]) (rest := []) ⟨hx, hb, hml, hown, hts⟩ (k_X5_may l D cI cR cS cL q (va_up (va_up (va_up (va_up v 0 (va_up (va_up (va_up (va_up (va_up (va_up (v 0) 0 (m_svs (v 0 0))) 1 0) 2 0) 3 TX.1) 4 TX.2.1) 5 TX.2.2.1)) 1 w) 2 (m_svp (v 0 0) (v 1) (v 2))) 4 TX.2.2.2.1) (b + n) (TX.2.2.2.1 (3 * n)) (TX.2.2.2.1 (3 * n + 1)) (by show m_I (b + n) (w); first | assumption | omega) (by omega) (by unfold m_good at hg; omega) (by unfold m_good at hg; omega)) (cwV 2 hts gX5_play_X5_may rfl rfl rfl (by decide +kernel) ⟨Nat.le_of_ble_eq_true rfl, Nat.le_of_ble_eq_true rfl⟩) (o_v (o_pR hK hN hP) (va_recv hK hP (ci := 5) (q0 := 0) rfl rfl)) rfl rfl hl.1 rfl (lv_room (Nat.le_of_ble_eq_true rfl)) dX5_play_56 ⟨Nat.zero_le _, Nat.zero_le _⟩) (fun r_8 e_7 => ?_)
          have e_7 : r_8 = nI (bn (m_may (w) (TX.2.2.2.1 (3 * n)) (TX.2.2.2.1 (3 * n + 1)))) := e_7
          subst e_7
          refine o_ifz (tgt := 100) hx hb dX5_play_59 (by decide) (fun c_9 => ?_) (fun c_9 => ?_)
          · skip
            refine lv_iload_n hx hb dX5_play_100 rfl (lv_at hl 0 rfl) ?_
            have w_10 : (wM q cI (m_played v TX)) = (wM q cI (va_up (va_up (va_up (va_up v 0 (va_up (va_up (va_up (va_up (va_up (va_up (v 0) 0 (m_svs (v 0 0))) 1 0) 2 0) 3 TX.1) 4 TX.2.1) 5 TX.2.2.1)) 1 w) 2 (m_svp (v 0 0) (v 1) (v 2))) 4 TX.2.2.2.1)) := (by unfold m_played; rw [if_pos (by omega), ← hE, m_run_no (fun hz => absurd hz.2 c_9)])
            rw [← w_10] at hP
            exact W.iret (v := nI n) hx hb hrt (fun t ht hW => ⟨⟨_, (), rfl, (congrArg nI (by rw [if_pos (by omega), ← hE, m_run_no (fun hz => absurd hz.2 c_9)])), by show va_P D vwCl _ t.heap; rw [ht]; exact hP⟩, hS.F ht⟩) hS.2.2 dX5_play_101
          · skip
            have hmy := c_9
            refine lv_aload_n hx hb dX5_play_62 rfl (lv_at hl 1 rfl) ?_
            refine lv_aload_n hx hb dX5_play_63 rfl (lv_at hl 1 rfl) ?_
            refine va_get (D := D) (ci := 5) (v := .ref (q 4)) (C := RX5) (T := TX5) (N := 10) hx hb hts inX5_play_X5 hown hK hP 0 rfl rfl 8 (by decide) (hts (.fieldLink RX5 19 "OddNoticeModel" "told" "[I") (List.mem_of_getElem? (i := 4) (by decide +kernel))) (fun _ h9 => h9) rfl dX5_play_64 ?_
            refine o_const (k := 3) hx hb dX5_play_67 (by decide) ?_
            refine lv_iload_n hx hb dX5_play_68 rfl (lv_at hl 0 rfl) ?_
            refine o_imul (a := 3) (b := n) (k := (3 * n)) hx hb dX5_play_69 rfl ?_
            refine o_iald (v := nI (TX.2.2.2.1 (3 * n))) hx hb hK hP 4 0 rfl rfl (by omega) (Nat.le_of_ble_eq_true rfl) rfl dX5_play_70 ?_
            refine lv_aload_n hx hb dX5_play_71 rfl (lv_at hl 1 rfl) ?_
            refine va_get (D := D) (ci := 5) (v := .ref (q 4)) (C := RX5) (T := TX5) (N := 10) hx hb hts inX5_play_X5 hown hK hP 0 rfl rfl 8 (by decide) (hts (.fieldLink RX5 19 "OddNoticeModel" "told" "[I") (List.mem_of_getElem? (i := 4) (by decide +kernel))) (fun _ h9 => h9) rfl dX5_play_72 ?_
            refine o_const (k := 3) hx hb dX5_play_75 (by decide) ?_
            refine lv_iload_n hx hb dX5_play_76 rfl (lv_at hl 0 rfl) ?_
            refine o_imul (a := 3) (b := n) (k := (3 * n)) hx hb dX5_play_77 rfl ?_
            refine o_const (k := 1) hx hb dX5_play_78 (by decide) ?_
            refine o_iadd (a := (3 * n)) (b := 1) (k := (3 * n + 1)) hx hb dX5_play_79 rfl ?_
            refine o_iald (v := nI (TX.2.2.2.1 (3 * n + 1))) hx hb hK hP 4 0 rfl rfl (by omega) (Nat.le_of_ble_eq_true rfl) rfl dX5_play_80 ?_
            refine lv_aload_n hx hb dX5_play_81 rfl (lv_at hl 1 rfl) ?_
            refine va_get (D := D) (ci := 5) (v := .ref (q 4)) (C := RX5) (T := TX5) (N := 10) hx hb hts inX5_play_X5 hown hK hP 0 rfl rfl 8 (by decide) (hts (.fieldLink RX5 19 "OddNoticeModel" "told" "[I") (List.mem_of_getElem? (i := 4) (by decide +kernel))) (fun _ h9 => h9) rfl dX5_play_82 ?_
            refine o_const (k := 3) hx hb dX5_play_85 (by decide) ?_
            refine lv_iload_n hx hb dX5_play_86 rfl (lv_at hl 0 rfl) ?_
            refine o_imul (a := 3) (b := n) (k := (3 * n)) hx hb dX5_play_87 rfl ?_
            refine o_const (k := 2) hx hb dX5_play_88 (by decide) ?_
            refine o_iadd (a := (3 * n)) (b := 2) (k := (3 * n + 2)) hx hb dX5_play_89 rfl ?_
            refine o_iald (v := nI (TX.2.2.2.1 (3 * n + 2))) hx hb hK hP 4 0 rfl rfl (by omega) (Nat.le_of_ble_eq_true rfl) rfl dX5_play_90 ?_
            refine o_wv (va_runV (As := [.int (nI (TX.2.2.2.1 (3 * n))), .int (nI (TX.2.2.2.1 (3 * n + 1))), .int (nI (TX.2.2.2.1 (3 * n + 2)))]) (rest := []) ⟨hx, hb, hml, hown, hts⟩ (k_X5_does l D cI cR cS cL H.size q (va_up (va_up (va_up (va_up v 0 (va_up (va_up (va_up (va_up (va_up (va_up (v 0) 0 (m_svs (v 0 0))) 1 0) 2 0) 3 TX.1) 4 TX.2.1) 5 TX.2.2.1)) 1 w) 2 (m_svp (v 0 0) (v 1) (v 2))) 4 TX.2.2.2.1) (b + n) (TX.2.2.2.1 (3 * n)) (TX.2.2.2.1 (3 * n + 1)) (TX.2.2.2.1 (3 * n + 2)) (by show m_I (b + n) (w); first | assumption | omega) (by omega) (by unfold m_good at hg; omega) (by unfold m_good at hg; omega) (by show m_may (w) (TX.2.2.2.1 (3 * n)) (TX.2.2.2.1 (3 * n + 1)); first | assumption | omega)) (cwV 3 hts gX5_play_X5_does rfl rfl rfl (by decide +kernel) ⟨Nat.le_of_ble_eq_true rfl, Nat.le_of_ble_eq_true rfl⟩) (o_v (o_pB hK hN hP hD) (va_recv hK hP (ci := 5) (q0 := 0) rfl rfl)) rfl rfl hl.1 rfl (lv_room (Nat.le_of_ble_eq_true rfl)) dX5_play_91 ⟨Nat.zero_le _, Nat.zero_le _⟩) hP hD hS hA [0, 1, 2, 3, 4] (by decide) rfl (fun _ => rfl) (fun _ H locs e_11 hP hD hS => ?_)
            have hP : va_P D vwCl (wM q cI (va_up (va_up (va_up (va_up v 0 (va_up (va_up (va_up (va_up (va_up (va_up (v 0) 0 (m_svs (v 0 0))) 1 0) 2 0) 3 TX.1) 4 TX.2.1) 5 TX.2.2.1)) 1 (m_does (w) (TX.2.2.2.1 (3 * n)) (TX.2.2.2.1 (3 * n + 1)) (TX.2.2.2.1 (3 * n + 2)))) 2 (m_svp (v 0 0) (v 1) (v 2))) 4 TX.2.2.2.1)) H := hP
            have hD : va_D A (wM q cI (va_up (va_up (va_up (va_up v 0 (va_up (va_up (va_up (va_up (va_up (va_up (v 0) 0 (m_svs (v 0 0))) 1 0) 2 0) 3 TX.1) 4 TX.2.1) 5 TX.2.2.1)) 1 (m_does (w) (TX.2.2.2.1 (3 * n)) (TX.2.2.2.1 (3 * n + 1)) (TX.2.2.2.1 (3 * n + 2)))) 2 (m_svp (v 0 0) (v 1) (v 2))) 4 TX.2.2.2.1)) := hD
            refine lv_iinc (v := nI (n + 1)) (lv' := [(1, .int (nI (n + 1))), (0, .ref (q 0))]) hx hb dX5_play_94 hl (k := 0) rfl (o_inc1 _) (by decide) rfl (fun ls hl => ?_)
            refine lv_goto (tgt := 29) hx hb dX5_play_97 (by decide) ?_
            have w_12 : (wM q cI (va_up (va_up (va_up (va_up v 0 (va_up (va_up (va_up (va_up (va_up (va_up (v 0) 0 (m_svs (v 0 0))) 1 0) 2 0) 3 TX.1) 4 TX.2.1) 5 TX.2.2.1)) 1 (m_does (w) (TX.2.2.2.1 (3 * n)) (TX.2.2.2.1 (3 * n + 1)) (TX.2.2.2.1 (3 * n + 2)))) 2 (m_svp (v 0 0) (v 1) (v 2))) 4 TX.2.2.2.1)) = (wM q cI (va_up (va_up (va_up (va_up v 0 (va_up (va_up (va_up (va_up (va_up (va_up (v 0) 0 (m_svs (v 0 0))) 1 0) 2 0) 3 TX.1) 4 TX.2.1) 5 TX.2.2.1)) 1 (m_does w (TX.2.2.2.1 (3 * n)) (TX.2.2.2.1 (3 * n + 1)) (TX.2.2.2.1 (3 * n + 2)))) 2 (m_svp (v 0 0) (v 1) (v 2))) 4 TX.2.2.2.1)) := by rfl
            rw [w_12] at hP hD
            exact ih_1  g (n + 1) (m_does w (TX.2.2.2.1 (3 * n)) (TX.2.2.2.1 (3 * n + 1)) (TX.2.2.2.1 (3 * n + 2))) (by rw [← hE, m_run_yes (by omega) hmy]) (by omega) (by omega) ((m_does_I hIw (show b + n < 2 ^ 28 by omega) hg hmy : m_I (b + n + 1) _)) (by omega) _ _ hP hD hS ls (lv_sub hl [0, 1] rfl)
    have w_13 : (wM q cI (va_up (va_up (va_up v 0 (va_up (va_up (va_up (va_up (va_up (va_up (v 0) 0 (m_svs (v 0 0))) 1 0) 2 0) 3 TX.1) 4 TX.2.1) 5 TX.2.2.1)) 2 (m_svp (v 0 0) (v 1) (v 2))) 4 TX.2.2.2.1)) = (wM q cI (va_up (va_up (va_up (va_up v 0 (va_up (va_up (va_up (va_up (va_up (va_up (v 0) 0 (m_svs (v 0 0))) 1 0) 2 0) 3 TX.1) 4 TX.2.1) 5 TX.2.2.1)) 1 (v 1)) 2 (m_svp (v 0 0) (v 1) (v 2))) 4 TX.2.2.2.1)) := by rfl
    rw [w_13] at hP hD
    exact lp_1 _ 31 0 (v 1) (rfl) (by omega) (Nat.zero_le _) (hI) (Nat.lt_succ_self _) _ _ hP hD hS ls (lv_sub hl [0, 1] rfl)
  · skip
    refine lv_aload_n hx hb dX5_play_12 rfl (lv_at hl 0 rfl) ?_
    refine o_const (k := 1) hx hb dX5_play_13 (by decide) ?_
    refine o_wi (va_runV (As := [.int (nI 1)]) (rest := []) ⟨hx, hb, hml, hown, hts⟩ (k_X5_fails l D cI cR cS cL H.size q (va_up (va_up v 0 (va_up (va_up (va_up (va_up (v 0) 2 0) 3 TX.1) 4 TX.2.1) 5 TX.2.2.1)) 4 TX.2.2.2.1) 1 ) (cwV 1 hts gX5_play_X5_fails rfl rfl rfl (by decide +kernel) ⟨Nat.le_of_ble_eq_true rfl, Nat.le_of_ble_eq_true rfl⟩) (o_v (o_pB hK hN hP hD) (va_recv hK hP (ci := 5) (q0 := 0) rfl rfl)) rfl rfl hl.1 rfl (lv_room (Nat.le_of_ble_eq_true rfl)) dX5_play_14 ⟨Nat.zero_le _, Nat.zero_le _⟩) hP hD hS hA [0, 1, 2, 3, 4] (by decide) rfl (fun _ => rfl) (fun r_15 _ H locs e_14 hP hD hS => ?_)
    have e_14 : r_15 = nI 0 := e_14
    subst e_14
    have hP : va_P D vwCl (wM q cI (va_up (va_up v 0 (va_up (va_up (va_up (va_up (v 0) 2 1) 3 TX.1) 4 TX.2.1) 5 TX.2.2.1)) 4 TX.2.2.2.1)) H := hP
    have hD : va_D A (wM q cI (va_up (va_up v 0 (va_up (va_up (va_up (va_up (v 0) 2 1) 3 TX.1) 4 TX.2.1) 5 TX.2.2.1)) 4 TX.2.2.2.1)) := hD
    have w_16 : (wM q cI (m_played v TX)) = (wM q cI (va_up (va_up v 0 (va_up (va_up (va_up (va_up (v 0) 2 1) 3 TX.1) 4 TX.2.1) 5 TX.2.2.1)) 4 TX.2.2.2.1)) := (by unfold m_played; rw [if_neg (by omega)])
    rw [← w_16] at hP
    exact W.iret (v := nI 0) hx hb hrt (fun t ht hW => ⟨⟨_, (), rfl, (congrArg nI (by rw [if_neg (by omega)])), by show va_P D vwCl _ t.heap; rw [ht]; exact hP⟩, hS.F ht⟩) hS.2.2 dX5_play_17
