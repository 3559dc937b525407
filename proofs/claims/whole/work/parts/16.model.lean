theorem inX5_halves_X5 : ∀ w ∈ wsX50, w ∈ wsX5_halves := by decide +kernel
set_option maxHeartbeats 4000000 in
set_option maxRecDepth 100000 in
theorem k_X5_halves (l : Launch) (D : va_G) (cI cR cS cL : ClassId) (q : Nat → Nat) (v : Nat → Nat → Nat) (b : Nat) (r : Nat) (hI : m_I b (v 1)) (hb : b < 2 ^ 28) (hr : r < 4) : Met l yX5_halves wsX5_halves ({ frames := 3, cells := 0, slots := 0, locals := 66 }) (va_Pc [.ref (q 0), .int (nI r)] (o_R D (o_T cI cR cS cL) (wM q cI v))) (vp_Si (fun rz => rz = nI (m_half (v 1) r))) 0 0 (fun _ => False) := by
  refine Met.ofW (cc := cX5_halves) (maxL := 8) (ret := (some .int)) (by decide) rfl ?_
  intro p e s m args below meth cd s₁ B hml hv
  obtain ⟨rfl, hP, hK, hN⟩ := hv
  have hx := B.exec
  have hb := B.bytes
  have hrt := B.returns
  have hts := atoms_spec (ws := wsX5_halves) B.pre
  have hown : s.vm.findClass RX5 = some m.cls := findClass_of_methodNamed B.named
  have hlocks := B.notSynchronized
  have hl := lv_entry ([.ref (q 0), .int (nI r)]) (n := 8) (Nat.le_of_ble_eq_true rfl)
  rw [lg_entry_eq]
  generalize (lg_sl ([.ref (q 0), .int (nI r)]) ++ List.replicate (8 - (lg_sl ([.ref (q 0), .int (nI r)])).length) Slot.unset).toArray = ls at hl ⊢
  have hl : lv_has ls 8 [(0, .ref (q 0)), (1, .int (nI r))] := hl
  have hIc := hI
  obtain ⟨⟨i1, hw, i3, i4, i5⟩, ⟨i6, i7, i8, i9, i10⟩, i11⟩ := hI
  have i12 := i11 r hr
  refine lv_aload_n hx hb dX5_halves_0 rfl (lv_at hl 0 rfl) ?_
  refine lv_iload_n hx hb dX5_halves_1 rfl (lv_at hl 1 rfl) ?_
  refine o_ri (va_runV (As := [.int (nI r)]) (rest := []) ⟨hx, hb, hml, hown, hts⟩ (k_X5_tries l D cI cR cS cL q v b r (hIc) (by show b < 2 ^ 28; first | assumption | omega) (by show r < 4; first | assumption | omega)) (cwV 1 hts gX5_halves_X5_tries rfl rfl rfl (by decide +kernel) ⟨Nat.le_of_ble_eq_true rfl, Nat.le_of_ble_eq_true rfl⟩) (o_v (o_pR hK hN hP) (va_recv hK hP (ci := 5) (q0 := 0) rfl rfl)) rfl rfl hl.1 rfl (lv_room (Nat.le_of_ble_eq_true rfl)) dX5_halves_2 ⟨Nat.zero_le _, Nat.zero_le _⟩) (fun r_2 e_1 => ?_)
  have e_1 : r_2 = nI (m_tries (v 1) r) := e_1
  subst e_1
  have gv_3 := m_tries_or (v 1) r
  refine o_const (k := 1) hx hb dX5_halves_5 (by decide) ?_
  refine o_icmp_eq (tgt := 11) hx hb dX5_halves_6 (by decide) (by omega) (Nat.le_of_ble_eq_true rfl) (fun c_4 => ?_) (fun c_4 => ?_)
  · skip
    refine lv_aload_n hx hb dX5_halves_11 rfl (lv_at hl 0 rfl) ?_
    refine lv_iload_n hx hb dX5_halves_12 rfl (lv_at hl 1 rfl) ?_
    refine o_ri (va_runV (As := [.int (nI r)]) (rest := []) ⟨hx, hb, hml, hown, hts⟩ (k_X5_ofReading l D cI cR cS cL q v r (by show r < 4; first | assumption | omega) (by show ∀ k, v 1 k < 2 ^ 32; first | assumption | omega) (by show v 1 1 < 2 ^ 31; first | assumption | omega) (by show v 1 (15 + 17 * r + 3) < 2 ^ 31; first | assumption | omega)) (cwV 1 hts gX5_halves_X5_ofReading rfl rfl rfl (by decide +kernel) ⟨Nat.le_of_ble_eq_true rfl, Nat.le_of_ble_eq_true rfl⟩) (o_v (o_pR hK hN hP) (va_recv hK hP (ci := 5) (q0 := 0) rfl rfl)) rfl rfl hl.1 rfl (lv_room (Nat.le_of_ble_eq_true rfl)) dX5_halves_13 ⟨Nat.zero_le _, Nat.zero_le _⟩) (fun r_6 e_5 => ?_)
    have e_5 : r_6 = nI (m_ofr (v 1) r) := e_5
    subst e_5
    have gv_7 := m_ofr_le (v 1) r
    refine o_const (k := 1) hx hb dX5_halves_16 (by decide) ?_
    have J_1 : W p l e (headSpec wsX5_halves ({ frames := 3, cells := 0, slots := 0, locals := 66 })).room s m ([.ref (q 0), .int (nI r)] : List Value).toArray below meth cd s.heap [] 0 0 (MQ below (vp_Si (fun rz => rz = nI (m_half (v 1) r))) ([.ref (q 0), .int (nI r)] : List Value).toArray s 0 0 (fun _ => False)) (F0 m 30 ls [.int (nI (m_tk (v 1) r))]) := by
      refine lv_istore_n (lv' := [(2, .int (nI (m_tk (v 1) r))), (0, .ref (q 0)), (1, .int (nI r))]) hx hb dX5_halves_30 rfl hl (by decide) rfl (fun ls hl => ?_)
      refine o_const (k := 0) hx hb dX5_halves_31 (by decide) ?_
      refine lv_istore_n (lv' := [(3, .int (nI 0)), (2, .int (nI (m_tk (v 1) r))), (0, .ref (q 0)), (1, .int (nI r))]) hx hb dX5_halves_32 rfl hl (by decide) rfl (fun ls hl => ?_)
      refine o_const (k := 0) hx hb dX5_halves_33 (by decide) ?_
      refine lv_istore (lv' := [(4, .int (nI 0)), (3, .int (nI 0)), (2, .int (nI (m_tk (v 1) r))), (0, .ref (q 0)), (1, .int (nI r))]) hx hb dX5_halves_34 hl (by decide) rfl (fun ls hl => ?_)
      have lp_2 : ∀ (fu : Nat) (j : Nat), j ≤ 16 → 16 - j < fu → ∀ (ls : Array Slot) (hl : lv_has ls 8 [(4, .int (nI j)), (3, .int (nI (m_wh (v 1) r (m_tk (v 1) r) (v 1 0 / 2) j))), (2, .int (nI (m_tk (v 1) r))), (0, .ref (q 0)), (1, .int (nI r))]), W p l e (headSpec wsX5_halves ({ frames := 3, cells := 0, slots := 0, locals := 66 })).room s m ([.ref (q 0), .int (nI r)] : List Value).toArray below meth cd s.heap [] 0 0 (MQ below (vp_Si (fun rz => rz = nI (m_half (v 1) r))) ([.ref (q 0), .int (nI r)] : List Value).toArray s 0 0 (fun _ => False)) (F0 m 36 ls []) := by
        intro fu
        induction fu with
        | zero => intro j hj hm; exact absurd hm (Nat.not_lt_zero _)
        | succ fu ih_2 =>
          intro j hj hm_2 ls hl
          have htk : m_tk (v 1) r ≤ 5 := by unfold m_tk; (repeat' split) <;> omega
          have hor := m_ng_or (v 1 0 / 2) j
          have hwl := m_wh_le (v 1) r (m_tk (v 1) r) (v 1 0 / 2) j
          refine lv_iload hx hb dX5_halves_36 (lv_at hl 0 rfl) ?_
          refine o_bipush (k := 16) hx hb dX5_halves_38 (by decide) ?_
          refine o_icmp_ge (tgt := 171) hx hb dX5_halves_40 (by decide) (by omega) (Nat.le_of_ble_eq_true rfl) (fun c_8 => ?_) (fun c_8 => ?_)
          · skip
            refine lv_iload_n hx hb dX5_halves_171 rfl (lv_at hl 1 rfl) ?_
            refine o_if_eq (tgt := 179) hx hb dX5_halves_172 (by decide) (by omega) (fun c_9 => ?_) (fun c_9 => ?_)
            · skip
              refine o_const (k := 1) hx hb dX5_halves_179 (by decide) ?_
              exact W.iret (v := nI 1) hx hb hrt (fun t ht hW => ⟨_, rfl, (congrArg nI (by unfold m_half; rw [if_pos (by omega), show 16 = j by omega]; (repeat' split) <;> omega)), ht⟩) (fun _ h => nomatch h) dX5_halves_180
            · skip
              refine o_const (k := 0) hx hb dX5_halves_175 (by decide) ?_
              refine lv_goto (tgt := 180) hx hb dX5_halves_176 (by decide) ?_
              exact W.iret (v := nI 0) hx hb hrt (fun t ht hW => ⟨_, rfl, (congrArg nI (by unfold m_half; rw [if_pos (by omega), show 16 = j by omega]; (repeat' split) <;> omega)), ht⟩) (fun _ h => nomatch h) dX5_halves_180
          · skip
            refine lv_aload_n hx hb dX5_halves_43 rfl (lv_at hl 3 rfl) ?_
            refine lv_aload_n hx hb dX5_halves_44 rfl (lv_at hl 3 rfl) ?_
            refine va_get (D := D) (ci := 5) (v := .ref (q 1)) (C := RX5) (T := TX5) (N := 10) hx hb hts inX5_halves_X5 hown hK hP 0 rfl rfl 0 (by decide) (hts (.fieldLink RX5 7 "OddNoticeModel" "now" "[I") (List.mem_of_getElem? (i := 1) (by decide +kernel))) (fun _ h9 => h9) rfl dX5_halves_45 ?_
            refine o_const (k := 0) hx hb dX5_halves_48 (by decide) ?_
            refine o_iald (v := nI (v 1 0)) hx hb hK hP 1 0 rfl rfl (Nat.le_of_ble_eq_true rfl) (Nat.le_of_ble_eq_true rfl) rfl dX5_halves_49 ?_
            have f_10 := hw 0
            refine o_const (k := 2) hx hb dX5_halves_50 (by decide) ?_
            refine o_idiv (a := (v 1 0)) (b := 2) (k := ((v 1 0) / 2)) hx hb dX5_halves_51 (by omega) (by decide) (Nat.le_of_ble_eq_true rfl) rfl ?_
            refine lv_iload hx hb dX5_halves_52 (lv_at hl 0 rfl) ?_
            refine lv_isub hx hb dX5_halves_54 ?_
            refine o_ti (m_ng_eq (by omega) (by omega)) ?_
            refine o_ri (va_runV (As := [.int (nI (m_ng (v 1 0 / 2) j))]) (rest := []) ⟨hx, hb, hml, hown, hts⟩ (k_X5_isKept l D cI cR cS cL q v (m_ng (v 1 0 / 2) j) (by show v 1 0 < 2 ^ 30; first | assumption | omega) (by show (m_ng (v 1 0 / 2) j) < 2 ^ 32; first | assumption | omega)) (cwV 1 hts gX5_halves_X5_isKept rfl rfl rfl (by decide +kernel) ⟨Nat.le_of_ble_eq_true rfl, Nat.le_of_ble_eq_true rfl⟩) (o_v (o_pR hK hN hP) (va_recv hK hP (ci := 5) (q0 := 0) rfl rfl)) rfl rfl hl.1 rfl (lv_room (Nat.le_of_ble_eq_true rfl)) dX5_halves_55 ⟨Nat.zero_le _, Nat.zero_le _⟩) (fun r_12 e_11 => ?_)
            have e_11 : r_12 = nI (bn ((m_ng (v 1 0 / 2) j) ≤ v 1 0 / 2 ∧ v 1 0 / 2 - (m_ng (v 1 0 / 2) j) < 16)) := e_11
            subst e_11
            refine lv_istore (lv' := [(5, .int (nI (bn ((m_ng (v 1 0 / 2) j) ≤ v 1 0 / 2 ∧ v 1 0 / 2 - (m_ng (v 1 0 / 2) j) < 16)))), (4, .int (nI j)), (3, .int (nI (m_wh (v 1) r (m_tk (v 1) r) (v 1 0 / 2) j))), (2, .int (nI (m_tk (v 1) r))), (0, .ref (q 0)), (1, .int (nI r))]) hx hb dX5_halves_58 hl (by decide) rfl (fun ls hl => ?_)
            refine o_const (k := 0) hx hb dX5_halves_60 (by decide) ?_
            refine lv_istore (lv' := [(6, .int (nI 0)), (5, .int (nI (bn ((m_ng (v 1 0 / 2) j) ≤ v 1 0 / 2 ∧ v 1 0 / 2 - (m_ng (v 1 0 / 2) j) < 16)))), (4, .int (nI j)), (3, .int (nI (m_wh (v 1) r (m_tk (v 1) r) (v 1 0 / 2) j))), (2, .int (nI (m_tk (v 1) r))), (0, .ref (q 0)), (1, .int (nI r))]) hx hb dX5_halves_61 hl (by decide) rfl (fun ls hl => ?_)
            refine lv_iload hx hb dX5_halves_63 (lv_at hl 0 rfl) ?_
            refine o_const (k := 5) hx hb dX5_halves_65 (by decide) ?_
            refine o_icmp_ge (tgt := 150) hx hb dX5_halves_66 (by decide) (Nat.le_of_ble_eq_true rfl) (Nat.le_of_ble_eq_true rfl) (fun c0 => absurd c0 (by decide)) (fun _ => ?_)
            refine lv_iload hx hb dX5_halves_69 (lv_at hl 1 rfl) ?_
            refine o_ifz (tgt := 150) hx hb dX5_halves_71 (by decide) (fun c_13 => ?_) (fun c_13 => ?_)
            · skip
              refine lv_iload_n hx hb dX5_halves_150 rfl (lv_at hl 3 rfl) ?_
              refine o_if_ne (tgt := 159) hx hb dX5_halves_151 (by decide) (by omega) (fun c_14 => ?_) (fun c_14 => ?_)
              · skip
                refine o_const (k := 1) hx hb dX5_halves_159 (by decide) ?_
                refine lv_goto (tgt := 164) hx hb dX5_halves_160 (by decide) ?_
                refine lv_istore_n (lv' := [(3, .int (nI 1)), (6, .int (nI 0)), (5, .int (nI (bn ((m_ng (v 1 0 / 2) j) ≤ v 1 0 / 2 ∧ v 1 0 / 2 - (m_ng (v 1 0 / 2) j) < 16)))), (4, .int (nI j)), (2, .int (nI (m_tk (v 1) r))), (0, .ref (q 0)), (1, .int (nI r))]) hx hb dX5_halves_164 rfl hl (by decide) rfl (fun ls hl => ?_)
                refine lv_iinc (v := nI (j + 1)) (lv' := [(4, .int (nI (j + 1))), (3, .int (nI 1)), (6, .int (nI 0)), (5, .int (nI (bn ((m_ng (v 1 0 / 2) j) ≤ v 1 0 / 2 ∧ v 1 0 / 2 - (m_ng (v 1 0 / 2) j) < 16)))), (2, .int (nI (m_tk (v 1) r))), (0, .ref (q 0)), (1, .int (nI r))]) hx hb dX5_halves_165 hl (k := 3) rfl (o_inc1 _) (by decide) rfl (fun ls hl => ?_)
                refine lv_goto (tgt := 36) hx hb dX5_halves_168 (by decide) ?_
                have q_15 : nI 1 = nI (m_wh (v 1) r (m_tk (v 1) r) (v 1 0 / 2) (j + 1)) := by rw [m_wh, if_pos (Or.inl (by omega))]
                have hl := o_lvset hl 1 rfl (congrArg Value.int q_15)
                exact ih_2  (j + 1) (by omega) (by omega) ls (lv_sub hl [0, 1, 4, 5, 6] rfl)
              · skip
                refine lv_iload hx hb dX5_halves_154 (lv_at hl 1 rfl) ?_
                refine o_ifz (tgt := 163) hx hb dX5_halves_156 (by decide) (fun _ => ?_) (fun z => absurd z c_13)
                refine o_const (k := 0) hx hb dX5_halves_163 (by decide) ?_
                refine lv_istore_n (lv' := [(3, .int (nI 0)), (6, .int (nI 0)), (5, .int (nI (bn ((m_ng (v 1 0 / 2) j) ≤ v 1 0 / 2 ∧ v 1 0 / 2 - (m_ng (v 1 0 / 2) j) < 16)))), (4, .int (nI j)), (2, .int (nI (m_tk (v 1) r))), (0, .ref (q 0)), (1, .int (nI r))]) hx hb dX5_halves_164 rfl hl (by decide) rfl (fun ls hl => ?_)
                refine lv_iinc (v := nI (j + 1)) (lv' := [(4, .int (nI (j + 1))), (3, .int (nI 0)), (6, .int (nI 0)), (5, .int (nI (bn ((m_ng (v 1 0 / 2) j) ≤ v 1 0 / 2 ∧ v 1 0 / 2 - (m_ng (v 1 0 / 2) j) < 16)))), (2, .int (nI (m_tk (v 1) r))), (0, .ref (q 0)), (1, .int (nI r))]) hx hb dX5_halves_165 hl (k := 3) rfl (o_inc1 _) (by decide) rfl (fun ls hl => ?_)
                refine lv_goto (tgt := 36) hx hb dX5_halves_168 (by decide) ?_
                have q_16 : nI 0 = nI (m_wh (v 1) r (m_tk (v 1) r) (v 1 0 / 2) (j + 1)) := by rw [m_wh, if_neg (fun hz => by rcases hz with hz | hz; omega; exact c_13 hz.1)]
                have hl := o_lvset hl 1 rfl (congrArg Value.int q_16)
                exact ih_2  (j + 1) (by omega) (by omega) ls (lv_sub hl [0, 1, 4, 5, 6] rfl)
            · skip
              have J_3 : W p l e (headSpec wsX5_halves ({ frames := 3, cells := 0, slots := 0, locals := 66 })).room s m ([.ref (q 0), .int (nI r)] : List Value).toArray below meth cd s.heap [] 0 0 (MQ below (vp_Si (fun rz => rz = nI (m_half (v 1) r))) ([.ref (q 0), .int (nI r)] : List Value).toArray s 0 0 (fun _ => False)) (F0 m 103 ls [.int (nI (m_its (v 1) r (m_tk (v 1) r) 0))]) := by
                have hit := m_its_lt hw r (m_tk (v 1) r) 0
                refine lv_istore (lv' := [(7, .int (nI (m_its (v 1) r (m_tk (v 1) r) 0))), (6, .int (nI 0)), (5, .int (nI (bn ((m_ng (v 1 0 / 2) j) ≤ v 1 0 / 2 ∧ v 1 0 / 2 - (m_ng (v 1 0 / 2) j) < 16)))), (4, .int (nI j)), (3, .int (nI (m_wh (v 1) r (m_tk (v 1) r) (v 1 0 / 2) j))), (2, .int (nI (m_tk (v 1) r))), (0, .ref (q 0)), (1, .int (nI r))]) hx hb dX5_halves_103 hl (by decide) rfl (fun ls hl => ?_)
                refine lv_iload hx hb dX5_halves_105 (lv_at hl 0 rfl) ?_
                refine lv_aload_n hx hb dX5_halves_107 rfl (lv_at hl 6 rfl) ?_
                refine va_get (D := D) (ci := 5) (v := .ref (q 1)) (C := RX5) (T := TX5) (N := 10) hx hb hts inX5_halves_X5 hown hK hP 0 rfl rfl 0 (by decide) (hts (.fieldLink RX5 7 "OddNoticeModel" "now" "[I") (List.mem_of_getElem? (i := 1) (by decide +kernel))) (fun _ h9 => h9) rfl dX5_halves_108 ?_
                refine o_bipush (k := 83) hx hb dX5_halves_111 (by decide) ?_
                refine o_const (k := 5) hx hb dX5_halves_113 (by decide) ?_
                refine lv_aload_n hx hb dX5_halves_114 rfl (lv_at hl 6 rfl) ?_
                refine va_get (D := D) (ci := 5) (v := .ref (q 1)) (C := RX5) (T := TX5) (N := 10) hx hb hts inX5_halves_X5 hown hK hP 0 rfl rfl 0 (by decide) (hts (.fieldLink RX5 7 "OddNoticeModel" "now" "[I") (List.mem_of_getElem? (i := 1) (by decide +kernel))) (fun _ h9 => h9) rfl dX5_halves_115 ?_
                refine o_const (k := 0) hx hb dX5_halves_118 (by decide) ?_
                refine o_iald (v := nI (v 1 0)) hx hb hK hP 1 0 rfl rfl (Nat.le_of_ble_eq_true rfl) (Nat.le_of_ble_eq_true rfl) rfl dX5_halves_119 ?_
                refine o_const (k := 2) hx hb dX5_halves_120 (by decide) ?_
                refine o_idiv (a := (v 1 0)) (b := 2) (k := ((v 1 0) / 2)) hx hb dX5_halves_121 (by omega) (by decide) (Nat.le_of_ble_eq_true rfl) rfl ?_
                refine lv_iload hx hb dX5_halves_122 (lv_at hl 3 rfl) ?_
                refine lv_isub hx hb dX5_halves_124 ?_
                refine o_ti (m_ng_eq (by omega) (by omega)) ?_
                refine o_bipush (k := 16) hx hb dX5_halves_125 (by decide) ?_
                refine o_irem (a := (m_ng (v 1 0 / 2) j)) (b := 16) (k := ((m_ng (v 1 0 / 2) j) % 16)) hx hb dX5_halves_127 (by omega) (by decide) (Nat.le_of_ble_eq_true rfl) rfl ?_
                refine o_imul (a := 5) (b := ((m_ng (v 1 0 / 2) j) % 16)) (k := (5 * ((m_ng (v 1 0 / 2) j) % 16))) hx hb dX5_halves_128 rfl ?_
                refine o_iadd (a := 83) (b := (5 * ((m_ng (v 1 0 / 2) j) % 16))) (k := (83 + 5 * ((m_ng (v 1 0 / 2) j) % 16))) hx hb dX5_halves_129 rfl ?_
                refine lv_iload hx hb dX5_halves_130 (lv_at hl 1 rfl) ?_
                refine o_iadd (a := (83 + 5 * ((m_ng (v 1 0 / 2) j) % 16))) (b := 0) (k := (83 + 5 * ((m_ng (v 1 0 / 2) j) % 16))) hx hb dX5_halves_132 rfl ?_
                refine o_iald (v := nI (v 1 (83 + 5 * ((m_ng (v 1 0 / 2) j) % 16)))) hx hb hK hP 1 0 rfl rfl (by omega) (Nat.le_of_ble_eq_true rfl) rfl dX5_halves_133 ?_
                have f_17 := hw (83 + 5 * ((m_ng (v 1 0 / 2) j) % 16))
                refine o_icmp_ne (tgt := 141) hx hb dX5_halves_134 (by decide) (by omega) (by omega) (fun c_18 => ?_) (fun c_18 => ?_)
                · skip
                  refine o_const (k := 0) hx hb dX5_halves_141 (by decide) ?_
                  refine lv_istore (lv' := [(5, .int (nI 0)), (7, .int (nI (m_its (v 1) r (m_tk (v 1) r) 0))), (6, .int (nI 0)), (4, .int (nI j)), (3, .int (nI (m_wh (v 1) r (m_tk (v 1) r) (v 1 0 / 2) j))), (2, .int (nI (m_tk (v 1) r))), (0, .ref (q 0)), (1, .int (nI r))]) hx hb dX5_halves_142 hl (by decide) rfl (fun ls hl => ?_)
                  refine lv_iinc (v := nI 1) (lv' := [(6, .int (nI 1)), (5, .int (nI 0)), (7, .int (nI (m_its (v 1) r (m_tk (v 1) r) 0))), (4, .int (nI j)), (3, .int (nI (m_wh (v 1) r (m_tk (v 1) r) (v 1 0 / 2) j))), (2, .int (nI (m_tk (v 1) r))), (0, .ref (q 0)), (1, .int (nI r))]) hx hb dX5_halves_144 hl (k := 2) rfl (by decide) (by decide) rfl (fun ls hl => ?_)
                  refine lv_goto (tgt := 63) hx hb dX5_halves_147 (by decide) ?_
                  refine lv_iload hx hb dX5_halves_63 (lv_at hl 0 rfl) ?_
                  refine o_const (k := 5) hx hb dX5_halves_65 (by decide) ?_
                  refine o_icmp_ge (tgt := 150) hx hb dX5_halves_66 (by decide) (Nat.le_of_ble_eq_true rfl) (Nat.le_of_ble_eq_true rfl) (fun c0 => absurd c0 (by decide)) (fun _ => ?_)
                  refine lv_iload hx hb dX5_halves_69 (lv_at hl 1 rfl) ?_
                  refine o_if_eq (tgt := 150) hx hb dX5_halves_71 (by decide) (Nat.le_of_ble_eq_true rfl) (fun _ => ?_) (fun c0 => absurd c0 (by decide))
                  refine lv_iload_n hx hb dX5_halves_150 rfl (lv_at hl 4 rfl) ?_
                  refine o_if_ne (tgt := 159) hx hb dX5_halves_151 (by decide) (by omega) (fun c_19 => ?_) (fun c_19 => ?_)
                  · skip
                    refine o_const (k := 1) hx hb dX5_halves_159 (by decide) ?_
                    refine lv_goto (tgt := 164) hx hb dX5_halves_160 (by decide) ?_
                    refine lv_istore_n (lv' := [(3, .int (nI 1)), (6, .int (nI 1)), (5, .int (nI 0)), (7, .int (nI (m_its (v 1) r (m_tk (v 1) r) 0))), (4, .int (nI j)), (2, .int (nI (m_tk (v 1) r))), (0, .ref (q 0)), (1, .int (nI r))]) hx hb dX5_halves_164 rfl hl (by decide) rfl (fun ls hl => ?_)
                    refine lv_iinc (v := nI (j + 1)) (lv' := [(4, .int (nI (j + 1))), (3, .int (nI 1)), (6, .int (nI 1)), (5, .int (nI 0)), (7, .int (nI (m_its (v 1) r (m_tk (v 1) r) 0))), (2, .int (nI (m_tk (v 1) r))), (0, .ref (q 0)), (1, .int (nI r))]) hx hb dX5_halves_165 hl (k := 4) rfl (o_inc1 _) (by decide) rfl (fun ls hl => ?_)
                    refine lv_goto (tgt := 36) hx hb dX5_halves_168 (by decide) ?_
                    have q_20 : nI 1 = nI (m_wh (v 1) r (m_tk (v 1) r) (v 1 0 / 2) (j + 1)) := by rw [m_wh, if_pos (Or.inl (by omega))]
                    have hl := o_lvset hl 1 rfl (congrArg Value.int q_20)
                    exact ih_2  (j + 1) (by omega) (by omega) ls (lv_sub hl [0, 1, 5, 6, 7] rfl)
                  · skip
                    refine lv_iload hx hb dX5_halves_154 (lv_at hl 1 rfl) ?_
                    refine o_if_eq (tgt := 163) hx hb dX5_halves_156 (by decide) (Nat.le_of_ble_eq_true rfl) (fun _ => ?_) (fun c0 => absurd c0 (by decide))
                    refine o_const (k := 0) hx hb dX5_halves_163 (by decide) ?_
                    refine lv_istore_n (lv' := [(3, .int (nI 0)), (6, .int (nI 1)), (5, .int (nI 0)), (7, .int (nI (m_its (v 1) r (m_tk (v 1) r) 0))), (4, .int (nI j)), (2, .int (nI (m_tk (v 1) r))), (0, .ref (q 0)), (1, .int (nI r))]) hx hb dX5_halves_164 rfl hl (by decide) rfl (fun ls hl => ?_)
                    refine lv_iinc (v := nI (j + 1)) (lv' := [(4, .int (nI (j + 1))), (3, .int (nI 0)), (6, .int (nI 1)), (5, .int (nI 0)), (7, .int (nI (m_its (v 1) r (m_tk (v 1) r) 0))), (2, .int (nI (m_tk (v 1) r))), (0, .ref (q 0)), (1, .int (nI r))]) hx hb dX5_halves_165 hl (k := 4) rfl (o_inc1 _) (by decide) rfl (fun ls hl => ?_)
                    refine lv_goto (tgt := 36) hx hb dX5_halves_168 (by decide) ?_
                    have q_21 : nI 0 = nI (m_wh (v 1) r (m_tk (v 1) r) (v 1 0 / 2) (j + 1)) := by rw [m_wh, if_neg (fun hz => by rcases hz with hz | hz; omega; have hy := hz.2; unfold m_hs at hy; rw [if_neg c_18] at hy; omega)]
                    have hl := o_lvset hl 1 rfl (congrArg Value.int q_21)
                    exact ih_2  (j + 1) (by omega) (by omega) ls (lv_sub hl [0, 1, 5, 6, 7] rfl)
                · skip
                  refine o_const (k := 1) hx hb dX5_halves_137 (by decide) ?_
                  refine lv_goto (tgt := 142) hx hb dX5_halves_138 (by decide) ?_
                  refine lv_istore (lv' := [(5, .int (nI 1)), (7, .int (nI (m_its (v 1) r (m_tk (v 1) r) 0))), (6, .int (nI 0)), (4, .int (nI j)), (3, .int (nI (m_wh (v 1) r (m_tk (v 1) r) (v 1 0 / 2) j))), (2, .int (nI (m_tk (v 1) r))), (0, .ref (q 0)), (1, .int (nI r))]) hx hb dX5_halves_142 hl (by decide) rfl (fun ls hl => ?_)
                  refine lv_iinc (v := nI 1) (lv' := [(6, .int (nI 1)), (5, .int (nI 1)), (7, .int (nI (m_its (v 1) r (m_tk (v 1) r) 0))), (4, .int (nI j)), (3, .int (nI (m_wh (v 1) r (m_tk (v 1) r) (v 1 0 / 2) j))), (2, .int (nI (m_tk (v 1) r))), (0, .ref (q 0)), (1, .int (nI r))]) hx hb dX5_halves_144 hl (k := 2) rfl (by decide) (by decide) rfl (fun ls hl => ?_)
                  refine lv_goto (tgt := 63) hx hb dX5_halves_147 (by decide) ?_
                  refine lv_iload hx hb dX5_halves_63 (lv_at hl 0 rfl) ?_
                  refine o_const (k := 5) hx hb dX5_halves_65 (by decide) ?_
                  refine o_icmp_ge (tgt := 150) hx hb dX5_halves_66 (by decide) (Nat.le_of_ble_eq_true rfl) (Nat.le_of_ble_eq_true rfl) (fun c0 => absurd c0 (by decide)) (fun _ => ?_)
                  refine lv_iload hx hb dX5_halves_69 (lv_at hl 1 rfl) ?_
                  refine o_if_eq (tgt := 150) hx hb dX5_halves_71 (by decide) (Nat.le_of_ble_eq_true rfl) (fun c0 => absurd c0 (by decide)) (fun _ => ?_)
                  have J_4 : W p l e (headSpec wsX5_halves ({ frames := 3, cells := 0, slots := 0, locals := 66 })).room s m ([.ref (q 0), .int (nI r)] : List Value).toArray below meth cd s.heap [] 0 0 (MQ below (vp_Si (fun rz => rz = nI (m_half (v 1) r))) ([.ref (q 0), .int (nI r)] : List Value).toArray s 0 0 (fun _ => False)) (F0 m 103 ls [.int (nI (m_its (v 1) r (m_tk (v 1) r) 1))]) := by
                    have hit := m_its_lt hw r (m_tk (v 1) r) 1
                    refine lv_istore (lv' := [(7, .int (nI (m_its (v 1) r (m_tk (v 1) r) 1))), (6, .int (nI 1)), (5, .int (nI 1)), (4, .int (nI j)), (3, .int (nI (m_wh (v 1) r (m_tk (v 1) r) (v 1 0 / 2) j))), (2, .int (nI (m_tk (v 1) r))), (0, .ref (q 0)), (1, .int (nI r))]) hx hb dX5_halves_103 hl (by decide) rfl (fun ls hl => ?_)
                    refine lv_iload hx hb dX5_halves_105 (lv_at hl 0 rfl) ?_
                    refine lv_aload_n hx hb dX5_halves_107 rfl (lv_at hl 6 rfl) ?_
                    refine va_get (D := D) (ci := 5) (v := .ref (q 1)) (C := RX5) (T := TX5) (N := 10) hx hb hts inX5_halves_X5 hown hK hP 0 rfl rfl 0 (by decide) (hts (.fieldLink RX5 7 "OddNoticeModel" "now" "[I") (List.mem_of_getElem? (i := 1) (by decide +kernel))) (fun _ h9 => h9) rfl dX5_halves_108 ?_
                    refine o_bipush (k := 83) hx hb dX5_halves_111 (by decide) ?_
                    refine o_const (k := 5) hx hb dX5_halves_113 (by decide) ?_
                    refine lv_aload_n hx hb dX5_halves_114 rfl (lv_at hl 6 rfl) ?_
                    refine va_get (D := D) (ci := 5) (v := .ref (q 1)) (C := RX5) (T := TX5) (N := 10) hx hb hts inX5_halves_X5 hown hK hP 0 rfl rfl 0 (by decide) (hts (.fieldLink RX5 7 "OddNoticeModel" "now" "[I") (List.mem_of_getElem? (i := 1) (by decide +kernel))) (fun _ h9 => h9) rfl dX5_halves_115 ?_
                    refine o_const (k := 0) hx hb dX5_halves_118 (by decide) ?_
                    refine o_iald (v := nI (v 1 0)) hx hb hK hP 1 0 rfl rfl (Nat.le_of_ble_eq_true rfl) (Nat.le_of_ble_eq_true rfl) rfl dX5_halves_119 ?_
                    refine o_const (k := 2) hx hb dX5_halves_120 (by decide) ?_
                    refine o_idiv (a := (v 1 0)) (b := 2) (k := ((v 1 0) / 2)) hx hb dX5_halves_121 (by omega) (by decide) (Nat.le_of_ble_eq_true rfl) rfl ?_
                    refine lv_iload hx hb dX5_halves_122 (lv_at hl 3 rfl) ?_
                    refine lv_isub hx hb dX5_halves_124 ?_
                    refine o_ti (m_ng_eq (by omega) (by omega)) ?_
                    refine o_bipush (k := 16) hx hb dX5_halves_125 (by decide) ?_
                    refine o_irem (a := (m_ng (v 1 0 / 2) j)) (b := 16) (k := ((m_ng (v 1 0 / 2) j) % 16)) hx hb dX5_halves_127 (by omega) (by decide) (Nat.le_of_ble_eq_true rfl) rfl ?_
                    refine o_imul (a := 5) (b := ((m_ng (v 1 0 / 2) j) % 16)) (k := (5 * ((m_ng (v 1 0 / 2) j) % 16))) hx hb dX5_halves_128 rfl ?_
                    refine o_iadd (a := 83) (b := (5 * ((m_ng (v 1 0 / 2) j) % 16))) (k := (83 + 5 * ((m_ng (v 1 0 / 2) j) % 16))) hx hb dX5_halves_129 rfl ?_
                    refine lv_iload hx hb dX5_halves_130 (lv_at hl 1 rfl) ?_
                    refine o_iadd (a := (83 + 5 * ((m_ng (v 1 0 / 2) j) % 16))) (b := 1) (k := (83 + 5 * ((m_ng (v 1 0 / 2) j) % 16) + 1)) hx hb dX5_halves_132 rfl ?_
                    refine o_iald (v := nI (v 1 (83 + 5 * ((m_ng (v 1 0 / 2) j) % 16) + 1))) hx hb hK hP 1 0 rfl rfl (by omega) (Nat.le_of_ble_eq_true rfl) rfl dX5_halves_133 ?_
                    have f_22 := hw (83 + 5 * ((m_ng (v 1 0 / 2) j) % 16) + 1)
                    refine o_icmp_ne (tgt := 141) hx hb dX5_halves_134 (by decide) (by omega) (by omega) (fun c_23 => ?_) (fun c_23 => ?_)
                    · skip
                      refine o_const (k := 0) hx hb dX5_halves_141 (by decide) ?_
                      refine lv_istore (lv' := [(5, .int (nI 0)), (7, .int (nI (m_its (v 1) r (m_tk (v 1) r) 1))), (6, .int (nI 1)), (4, .int (nI j)), (3, .int (nI (m_wh (v 1) r (m_tk (v 1) r) (v 1 0 / 2) j))), (2, .int (nI (m_tk (v 1) r))), (0, .ref (q 0)), (1, .int (nI r))]) hx hb dX5_halves_142 hl (by decide) rfl (fun ls hl => ?_)
                      refine lv_iinc (v := nI 2) (lv' := [(6, .int (nI 2)), (5, .int (nI 0)), (7, .int (nI (m_its (v 1) r (m_tk (v 1) r) 1))), (4, .int (nI j)), (3, .int (nI (m_wh (v 1) r (m_tk (v 1) r) (v 1 0 / 2) j))), (2, .int (nI (m_tk (v 1) r))), (0, .ref (q 0)), (1, .int (nI r))]) hx hb dX5_halves_144 hl (k := 2) rfl (by decide) (by decide) rfl (fun ls hl => ?_)
                      refine lv_goto (tgt := 63) hx hb dX5_halves_147 (by decide) ?_
                      refine lv_iload hx hb dX5_halves_63 (lv_at hl 0 rfl) ?_
                      refine o_const (k := 5) hx hb dX5_halves_65 (by decide) ?_
                      refine o_icmp_ge (tgt := 150) hx hb dX5_halves_66 (by decide) (Nat.le_of_ble_eq_true rfl) (Nat.le_of_ble_eq_true rfl) (fun c0 => absurd c0 (by decide)) (fun _ => ?_)
                      refine lv_iload hx hb dX5_halves_69 (lv_at hl 1 rfl) ?_
                      refine o_if_eq (tgt := 150) hx hb dX5_halves_71 (by decide) (Nat.le_of_ble_eq_true rfl) (fun _ => ?_) (fun c0 => absurd c0 (by decide))
                      refine lv_iload_n hx hb dX5_halves_150 rfl (lv_at hl 4 rfl) ?_
                      refine o_if_ne (tgt := 159) hx hb dX5_halves_151 (by decide) (by omega) (fun c_24 => ?_) (fun c_24 => ?_)
                      · skip
                        refine o_const (k := 1) hx hb dX5_halves_159 (by decide) ?_
                        refine lv_goto (tgt := 164) hx hb dX5_halves_160 (by decide) ?_
                        refine lv_istore_n (lv' := [(3, .int (nI 1)), (6, .int (nI 2)), (5, .int (nI 0)), (7, .int (nI (m_its (v 1) r (m_tk (v 1) r) 1))), (4, .int (nI j)), (2, .int (nI (m_tk (v 1) r))), (0, .ref (q 0)), (1, .int (nI r))]) hx hb dX5_halves_164 rfl hl (by decide) rfl (fun ls hl => ?_)
                        refine lv_iinc (v := nI (j + 1)) (lv' := [(4, .int (nI (j + 1))), (3, .int (nI 1)), (6, .int (nI 2)), (5, .int (nI 0)), (7, .int (nI (m_its (v 1) r (m_tk (v 1) r) 1))), (2, .int (nI (m_tk (v 1) r))), (0, .ref (q 0)), (1, .int (nI r))]) hx hb dX5_halves_165 hl (k := 4) rfl (o_inc1 _) (by decide) rfl (fun ls hl => ?_)
                        refine lv_goto (tgt := 36) hx hb dX5_halves_168 (by decide) ?_
                        have q_25 : nI 1 = nI (m_wh (v 1) r (m_tk (v 1) r) (v 1 0 / 2) (j + 1)) := by rw [m_wh, if_pos (Or.inl (by omega))]
                        have hl := o_lvset hl 1 rfl (congrArg Value.int q_25)
                        exact ih_2  (j + 1) (by omega) (by omega) ls (lv_sub hl [0, 1, 5, 6, 7] rfl)
                      · skip
                        refine lv_iload hx hb dX5_halves_154 (lv_at hl 1 rfl) ?_
                        refine o_if_eq (tgt := 163) hx hb dX5_halves_156 (by decide) (Nat.le_of_ble_eq_true rfl) (fun _ => ?_) (fun c0 => absurd c0 (by decide))
                        refine o_const (k := 0) hx hb dX5_halves_163 (by decide) ?_
                        refine lv_istore_n (lv' := [(3, .int (nI 0)), (6, .int (nI 2)), (5, .int (nI 0)), (7, .int (nI (m_its (v 1) r (m_tk (v 1) r) 1))), (4, .int (nI j)), (2, .int (nI (m_tk (v 1) r))), (0, .ref (q 0)), (1, .int (nI r))]) hx hb dX5_halves_164 rfl hl (by decide) rfl (fun ls hl => ?_)
                        refine lv_iinc (v := nI (j + 1)) (lv' := [(4, .int (nI (j + 1))), (3, .int (nI 0)), (6, .int (nI 2)), (5, .int (nI 0)), (7, .int (nI (m_its (v 1) r (m_tk (v 1) r) 1))), (2, .int (nI (m_tk (v 1) r))), (0, .ref (q 0)), (1, .int (nI r))]) hx hb dX5_halves_165 hl (k := 4) rfl (o_inc1 _) (by decide) rfl (fun ls hl => ?_)
                        refine lv_goto (tgt := 36) hx hb dX5_halves_168 (by decide) ?_
                        have q_26 : nI 0 = nI (m_wh (v 1) r (m_tk (v 1) r) (v 1 0 / 2) (j + 1)) := by rw [m_wh, if_neg (fun hz => by rcases hz with hz | hz; omega; have hy := hz.2; unfold m_hs at hy; rw [if_pos c_18, if_neg c_23] at hy; omega)]
                        have hl := o_lvset hl 1 rfl (congrArg Value.int q_26)
                        exact ih_2  (j + 1) (by omega) (by omega) ls (lv_sub hl [0, 1, 5, 6, 7] rfl)
                    · skip
                      refine o_const (k := 1) hx hb dX5_halves_137 (by decide) ?_
                      refine lv_goto (tgt := 142) hx hb dX5_halves_138 (by decide) ?_
                      refine lv_istore (lv' := [(5, .int (nI 1)), (7, .int (nI (m_its (v 1) r (m_tk (v 1) r) 1))), (6, .int (nI 1)), (4, .int (nI j)), (3, .int (nI (m_wh (v 1) r (m_tk (v 1) r) (v 1 0 / 2) j))), (2, .int (nI (m_tk (v 1) r))), (0, .ref (q 0)), (1, .int (nI r))]) hx hb dX5_halves_142 hl (by decide) rfl (fun ls hl => ?_)
                      refine lv_iinc (v := nI 2) (lv' := [(6, .int (nI 2)), (5, .int (nI 1)), (7, .int (nI (m_its (v 1) r (m_tk (v 1) r) 1))), (4, .int (nI j)), (3, .int (nI (m_wh (v 1) r (m_tk (v 1) r) (v 1 0 / 2) j))), (2, .int (nI (m_tk (v 1) r))), (0, .ref (q 0)), (1, .int (nI r))]) hx hb dX5_halves_144 hl (k := 2) rfl (by decide) (by decide) rfl (fun ls hl => ?_)
                      refine lv_goto (tgt := 63) hx hb dX5_halves_147 (by decide) ?_
                      refine lv_iload hx hb dX5_halves_63 (lv_at hl 0 rfl) ?_
                      refine o_const (k := 5) hx hb dX5_halves_65 (by decide) ?_
                      refine o_icmp_ge (tgt := 150) hx hb dX5_halves_66 (by decide) (Nat.le_of_ble_eq_true rfl) (Nat.le_of_ble_eq_true rfl) (fun c0 => absurd c0 (by decide)) (fun _ => ?_)
                      refine lv_iload hx hb dX5_halves_69 (lv_at hl 1 rfl) ?_
                      refine o_if_eq (tgt := 150) hx hb dX5_halves_71 (by decide) (Nat.le_of_ble_eq_true rfl) (fun c0 => absurd c0 (by decide)) (fun _ => ?_)
                      have J_5 : W p l e (headSpec wsX5_halves ({ frames := 3, cells := 0, slots := 0, locals := 66 })).room s m ([.ref (q 0), .int (nI r)] : List Value).toArray below meth cd s.heap [] 0 0 (MQ below (vp_Si (fun rz => rz = nI (m_half (v 1) r))) ([.ref (q 0), .int (nI r)] : List Value).toArray s 0 0 (fun _ => False)) (F0 m 103 ls [.int (nI (m_its (v 1) r (m_tk (v 1) r) 2))]) := by
                        have hit := m_its_lt hw r (m_tk (v 1) r) 2
                        refine lv_istore (lv' := [(7, .int (nI (m_its (v 1) r (m_tk (v 1) r) 2))), (6, .int (nI 2)), (5, .int (nI 1)), (4, .int (nI j)), (3, .int (nI (m_wh (v 1) r (m_tk (v 1) r) (v 1 0 / 2) j))), (2, .int (nI (m_tk (v 1) r))), (0, .ref (q 0)), (1, .int (nI r))]) hx hb dX5_halves_103 hl (by decide) rfl (fun ls hl => ?_)
                        refine lv_iload hx hb dX5_halves_105 (lv_at hl 0 rfl) ?_
                        refine lv_aload_n hx hb dX5_halves_107 rfl (lv_at hl 6 rfl) ?_
                        refine va_get (D := D) (ci := 5) (v := .ref (q 1)) (C := RX5) (T := TX5) (N := 10) hx hb hts inX5_halves_X5 hown hK hP 0 rfl rfl 0 (by decide) (hts (.fieldLink RX5 7 "OddNoticeModel" "now" "[I") (List.mem_of_getElem? (i := 1) (by decide +kernel))) (fun _ h9 => h9) rfl dX5_halves_108 ?_
                        refine o_bipush (k := 83) hx hb dX5_halves_111 (by decide) ?_
                        refine o_const (k := 5) hx hb dX5_halves_113 (by decide) ?_
                        refine lv_aload_n hx hb dX5_halves_114 rfl (lv_at hl 6 rfl) ?_
                        refine va_get (D := D) (ci := 5) (v := .ref (q 1)) (C := RX5) (T := TX5) (N := 10) hx hb hts inX5_halves_X5 hown hK hP 0 rfl rfl 0 (by decide) (hts (.fieldLink RX5 7 "OddNoticeModel" "now" "[I") (List.mem_of_getElem? (i := 1) (by decide +kernel))) (fun _ h9 => h9) rfl dX5_halves_115 ?_
                        refine o_const (k := 0) hx hb dX5_halves_118 (by decide) ?_
                        refine o_iald (v := nI (v 1 0)) hx hb hK hP 1 0 rfl rfl (Nat.le_of_ble_eq_true rfl) (Nat.le_of_ble_eq_true rfl) rfl dX5_halves_119 ?_
                        refine o_const (k := 2) hx hb dX5_halves_120 (by decide) ?_
                        refine o_idiv (a := (v 1 0)) (b := 2) (k := ((v 1 0) / 2)) hx hb dX5_halves_121 (by omega) (by decide) (Nat.le_of_ble_eq_true rfl) rfl ?_
                        refine lv_iload hx hb dX5_halves_122 (lv_at hl 3 rfl) ?_
                        refine lv_isub hx hb dX5_halves_124 ?_
                        refine o_ti (m_ng_eq (by omega) (by omega)) ?_
                        refine o_bipush (k := 16) hx hb dX5_halves_125 (by decide) ?_
                        refine o_irem (a := (m_ng (v 1 0 / 2) j)) (b := 16) (k := ((m_ng (v 1 0 / 2) j) % 16)) hx hb dX5_halves_127 (by omega) (by decide) (Nat.le_of_ble_eq_true rfl) rfl ?_
                        refine o_imul (a := 5) (b := ((m_ng (v 1 0 / 2) j) % 16)) (k := (5 * ((m_ng (v 1 0 / 2) j) % 16))) hx hb dX5_halves_128 rfl ?_
                        refine o_iadd (a := 83) (b := (5 * ((m_ng (v 1 0 / 2) j) % 16))) (k := (83 + 5 * ((m_ng (v 1 0 / 2) j) % 16))) hx hb dX5_halves_129 rfl ?_
                        refine lv_iload hx hb dX5_halves_130 (lv_at hl 1 rfl) ?_
                        refine o_iadd (a := (83 + 5 * ((m_ng (v 1 0 / 2) j) % 16))) (b := 2) (k := (83 + 5 * ((m_ng (v 1 0 / 2) j) % 16) + 2)) hx hb dX5_halves_132 rfl ?_
                        refine o_iald (v := nI (v 1 (83 + 5 * ((m_ng (v 1 0 / 2) j) % 16) + 2))) hx hb hK hP 1 0 rfl rfl (by omega) (Nat.le_of_ble_eq_true rfl) rfl dX5_halves_133 ?_
                        have f_27 := hw (83 + 5 * ((m_ng (v 1 0 / 2) j) % 16) + 2)
                        refine o_icmp_ne (tgt := 141) hx hb dX5_halves_134 (by decide) (by omega) (by omega) (fun c_28 => ?_) (fun c_28 => ?_)
                        · skip
                          refine o_const (k := 0) hx hb dX5_halves_141 (by decide) ?_
                          refine lv_istore (lv' := [(5, .int (nI 0)), (7, .int (nI (m_its (v 1) r (m_tk (v 1) r) 2))), (6, .int (nI 2)), (4, .int (nI j)), (3, .int (nI (m_wh (v 1) r (m_tk (v 1) r) (v 1 0 / 2) j))), (2, .int (nI (m_tk (v 1) r))), (0, .ref (q 0)), (1, .int (nI r))]) hx hb dX5_halves_142 hl (by decide) rfl (fun ls hl => ?_)
                          refine lv_iinc (v := nI 3) (lv' := [(6, .int (nI 3)), (5, .int (nI 0)), (7, .int (nI (m_its (v 1) r (m_tk (v 1) r) 2))), (4, .int (nI j)), (3, .int (nI (m_wh (v 1) r (m_tk (v 1) r) (v 1 0 / 2) j))), (2, .int (nI (m_tk (v 1) r))), (0, .ref (q 0)), (1, .int (nI r))]) hx hb dX5_halves_144 hl (k := 2) rfl (by decide) (by decide) rfl (fun ls hl => ?_)
                          refine lv_goto (tgt := 63) hx hb dX5_halves_147 (by decide) ?_
                          refine lv_iload hx hb dX5_halves_63 (lv_at hl 0 rfl) ?_
                          refine o_const (k := 5) hx hb dX5_halves_65 (by decide) ?_
                          refine o_icmp_ge (tgt := 150) hx hb dX5_halves_66 (by decide) (Nat.le_of_ble_eq_true rfl) (Nat.le_of_ble_eq_true rfl) (fun c0 => absurd c0 (by decide)) (fun _ => ?_)
                          refine lv_iload hx hb dX5_halves_69 (lv_at hl 1 rfl) ?_
                          refine o_if_eq (tgt := 150) hx hb dX5_halves_71 (by decide) (Nat.le_of_ble_eq_true rfl) (fun _ => ?_) (fun c0 => absurd c0 (by decide))
                          refine lv_iload_n hx hb dX5_halves_150 rfl (lv_at hl 4 rfl) ?_
                          refine o_if_ne (tgt := 159) hx hb dX5_halves_151 (by decide) (by omega) (fun c_29 => ?_) (fun c_29 => ?_)
                          · skip
                            refine o_const (k := 1) hx hb dX5_halves_159 (by decide) ?_
                            refine lv_goto (tgt := 164) hx hb dX5_halves_160 (by decide) ?_
                            refine lv_istore_n (lv' := [(3, .int (nI 1)), (6, .int (nI 3)), (5, .int (nI 0)), (7, .int (nI (m_its (v 1) r (m_tk (v 1) r) 2))), (4, .int (nI j)), (2, .int (nI (m_tk (v 1) r))), (0, .ref (q 0)), (1, .int (nI r))]) hx hb dX5_halves_164 rfl hl (by decide) rfl (fun ls hl => ?_)
                            refine lv_iinc (v := nI (j + 1)) (lv' := [(4, .int (nI (j + 1))), (3, .int (nI 1)), (6, .int (nI 3)), (5, .int (nI 0)), (7, .int (nI (m_its (v 1) r (m_tk (v 1) r) 2))), (2, .int (nI (m_tk (v 1) r))), (0, .ref (q 0)), (1, .int (nI r))]) hx hb dX5_halves_165 hl (k := 4) rfl (o_inc1 _) (by decide) rfl (fun ls hl => ?_)
                            refine lv_goto (tgt := 36) hx hb dX5_halves_168 (by decide) ?_
                            have q_30 : nI 1 = nI (m_wh (v 1) r (m_tk (v 1) r) (v 1 0 / 2) (j + 1)) := by rw [m_wh, if_pos (Or.inl (by omega))]
                            have hl := o_lvset hl 1 rfl (congrArg Value.int q_30)
                            exact ih_2  (j + 1) (by omega) (by omega) ls (lv_sub hl [0, 1, 5, 6, 7] rfl)
                          · skip
                            refine lv_iload hx hb dX5_halves_154 (lv_at hl 1 rfl) ?_
                            refine o_if_eq (tgt := 163) hx hb dX5_halves_156 (by decide) (Nat.le_of_ble_eq_true rfl) (fun _ => ?_) (fun c0 => absurd c0 (by decide))
                            refine o_const (k := 0) hx hb dX5_halves_163 (by decide) ?_
                            refine lv_istore_n (lv' := [(3, .int (nI 0)), (6, .int (nI 3)), (5, .int (nI 0)), (7, .int (nI (m_its (v 1) r (m_tk (v 1) r) 2))), (4, .int (nI j)), (2, .int (nI (m_tk (v 1) r))), (0, .ref (q 0)), (1, .int (nI r))]) hx hb dX5_halves_164 rfl hl (by decide) rfl (fun ls hl => ?_)
                            refine lv_iinc (v := nI (j + 1)) (lv' := [(4, .int (nI (j + 1))), (3, .int (nI 0)), (6, .int (nI 3)), (5, .int (nI 0)), (7, .int (nI (m_its (v 1) r (m_tk (v 1) r) 2))), (2, .int (nI (m_tk (v 1) r))), (0, .ref (q 0)), (1, .int (nI r))]) hx hb dX5_halves_165 hl (k := 4) rfl (o_inc1 _) (by decide) rfl (fun ls hl => ?_)
                            refine lv_goto (tgt := 36) hx hb dX5_halves_168 (by decide) ?_
                            have q_31 : nI 0 = nI (m_wh (v 1) r (m_tk (v 1) r) (v 1 0 / 2) (j + 1)) := by rw [m_wh, if_neg (fun hz => by rcases hz with hz | hz; omega; have hy := hz.2; unfold m_hs at hy; rw [if_pos c_18, if_pos c_23, if_neg c_28] at hy; omega)]
                            have hl := o_lvset hl 1 rfl (congrArg Value.int q_31)
                            exact ih_2  (j + 1) (by omega) (by omega) ls (lv_sub hl [0, 1, 5, 6, 7] rfl)
                        · skip
                          refine o_const (k := 1) hx hb dX5_halves_137 (by decide) ?_
                          refine lv_goto (tgt := 142) hx hb dX5_halves_138 (by decide) ?_
                          refine lv_istore (lv' := [(5, .int (nI 1)), (7, .int (nI (m_its (v 1) r (m_tk (v 1) r) 2))), (6, .int (nI 2)), (4, .int (nI j)), (3, .int (nI (m_wh (v 1) r (m_tk (v 1) r) (v 1 0 / 2) j))), (2, .int (nI (m_tk (v 1) r))), (0, .ref (q 0)), (1, .int (nI r))]) hx hb dX5_halves_142 hl (by decide) rfl (fun ls hl => ?_)
                          refine lv_iinc (v := nI 3) (lv' := [(6, .int (nI 3)), (5, .int (nI 1)), (7, .int (nI (m_its (v 1) r (m_tk (v 1) r) 2))), (4, .int (nI j)), (3, .int (nI (m_wh (v 1) r (m_tk (v 1) r) (v 1 0 / 2) j))), (2, .int (nI (m_tk (v 1) r))), (0, .ref (q 0)), (1, .int (nI r))]) hx hb dX5_halves_144 hl (k := 2) rfl (by decide) (by decide) rfl (fun ls hl => ?_)
                          refine lv_goto (tgt := 63) hx hb dX5_halves_147 (by decide) ?_
                          refine lv_iload hx hb dX5_halves_63 (lv_at hl 0 rfl) ?_
                          refine o_const (k := 5) hx hb dX5_halves_65 (by decide) ?_
                          refine o_icmp_ge (tgt := 150) hx hb dX5_halves_66 (by decide) (Nat.le_of_ble_eq_true rfl) (Nat.le_of_ble_eq_true rfl) (fun c0 => absurd c0 (by decide)) (fun _ => ?_)
                          refine lv_iload hx hb dX5_halves_69 (lv_at hl 1 rfl) ?_
                          refine o_if_eq (tgt := 150) hx hb dX5_halves_71 (by decide) (Nat.le_of_ble_eq_true rfl) (fun c0 => absurd c0 (by decide)) (fun _ => ?_)
                          have J_6 : W p l e (headSpec wsX5_halves ({ frames := 3, cells := 0, slots := 0, locals := 66 })).room s m ([.ref (q 0), .int (nI r)] : List Value).toArray below meth cd s.heap [] 0 0 (MQ below (vp_Si (fun rz => rz = nI (m_half (v 1) r))) ([.ref (q 0), .int (nI r)] : List Value).toArray s 0 0 (fun _ => False)) (F0 m 103 ls [.int (nI (m_its (v 1) r (m_tk (v 1) r) 3))]) := by
                            have hit := m_its_lt hw r (m_tk (v 1) r) 3
                            refine lv_istore (lv' := [(7, .int (nI (m_its (v 1) r (m_tk (v 1) r) 3))), (6, .int (nI 3)), (5, .int (nI 1)), (4, .int (nI j)), (3, .int (nI (m_wh (v 1) r (m_tk (v 1) r) (v 1 0 / 2) j))), (2, .int (nI (m_tk (v 1) r))), (0, .ref (q 0)), (1, .int (nI r))]) hx hb dX5_halves_103 hl (by decide) rfl (fun ls hl => ?_)
                            refine lv_iload hx hb dX5_halves_105 (lv_at hl 0 rfl) ?_
                            refine lv_aload_n hx hb dX5_halves_107 rfl (lv_at hl 6 rfl) ?_
                            refine va_get (D := D) (ci := 5) (v := .ref (q 1)) (C := RX5) (T := TX5) (N := 10) hx hb hts inX5_halves_X5 hown hK hP 0 rfl rfl 0 (by decide) (hts (.fieldLink RX5 7 "OddNoticeModel" "now" "[I") (List.mem_of_getElem? (i := 1) (by decide +kernel))) (fun _ h9 => h9) rfl dX5_halves_108 ?_
                            refine o_bipush (k := 83) hx hb dX5_halves_111 (by decide) ?_
                            refine o_const (k := 5) hx hb dX5_halves_113 (by decide) ?_
                            refine lv_aload_n hx hb dX5_halves_114 rfl (lv_at hl 6 rfl) ?_
                            refine va_get (D := D) (ci := 5) (v := .ref (q 1)) (C := RX5) (T := TX5) (N := 10) hx hb hts inX5_halves_X5 hown hK hP 0 rfl rfl 0 (by decide) (hts (.fieldLink RX5 7 "OddNoticeModel" "now" "[I") (List.mem_of_getElem? (i := 1) (by decide +kernel))) (fun _ h9 => h9) rfl dX5_halves_115 ?_
                            refine o_const (k := 0) hx hb dX5_halves_118 (by decide) ?_
                            refine o_iald (v := nI (v 1 0)) hx hb hK hP 1 0 rfl rfl (Nat.le_of_ble_eq_true rfl) (Nat.le_of_ble_eq_true rfl) rfl dX5_halves_119 ?_
                            refine o_const (k := 2) hx hb dX5_halves_120 (by decide) ?_
                            refine o_idiv (a := (v 1 0)) (b := 2) (k := ((v 1 0) / 2)) hx hb dX5_halves_121 (by omega) (by decide) (Nat.le_of_ble_eq_true rfl) rfl ?_
                            refine lv_iload hx hb dX5_halves_122 (lv_at hl 3 rfl) ?_
                            refine lv_isub hx hb dX5_halves_124 ?_
                            refine o_ti (m_ng_eq (by omega) (by omega)) ?_
                            refine o_bipush (k := 16) hx hb dX5_halves_125 (by decide) ?_
                            refine o_irem (a := (m_ng (v 1 0 / 2) j)) (b := 16) (k := ((m_ng (v 1 0 / 2) j) % 16)) hx hb dX5_halves_127 (by omega) (by decide) (Nat.le_of_ble_eq_true rfl) rfl ?_
                            refine o_imul (a := 5) (b := ((m_ng (v 1 0 / 2) j) % 16)) (k := (5 * ((m_ng (v 1 0 / 2) j) % 16))) hx hb dX5_halves_128 rfl ?_
                            refine o_iadd (a := 83) (b := (5 * ((m_ng (v 1 0 / 2) j) % 16))) (k := (83 + 5 * ((m_ng (v 1 0 / 2) j) % 16))) hx hb dX5_halves_129 rfl ?_
                            refine lv_iload hx hb dX5_halves_130 (lv_at hl 1 rfl) ?_
                            refine o_iadd (a := (83 + 5 * ((m_ng (v 1 0 / 2) j) % 16))) (b := 3) (k := (83 + 5 * ((m_ng (v 1 0 / 2) j) % 16) + 3)) hx hb dX5_halves_132 rfl ?_
                            refine o_iald (v := nI (v 1 (83 + 5 * ((m_ng (v 1 0 / 2) j) % 16) + 3))) hx hb hK hP 1 0 rfl rfl (by omega) (Nat.le_of_ble_eq_true rfl) rfl dX5_halves_133 ?_
                            have f_32 := hw (83 + 5 * ((m_ng (v 1 0 / 2) j) % 16) + 3)
                            refine o_icmp_ne (tgt := 141) hx hb dX5_halves_134 (by decide) (by omega) (by omega) (fun c_33 => ?_) (fun c_33 => ?_)
                            · skip
                              refine o_const (k := 0) hx hb dX5_halves_141 (by decide) ?_
                              refine lv_istore (lv' := [(5, .int (nI 0)), (7, .int (nI (m_its (v 1) r (m_tk (v 1) r) 3))), (6, .int (nI 3)), (4, .int (nI j)), (3, .int (nI (m_wh (v 1) r (m_tk (v 1) r) (v 1 0 / 2) j))), (2, .int (nI (m_tk (v 1) r))), (0, .ref (q 0)), (1, .int (nI r))]) hx hb dX5_halves_142 hl (by decide) rfl (fun ls hl => ?_)
                              refine lv_iinc (v := nI 4) (lv' := [(6, .int (nI 4)), (5, .int (nI 0)), (7, .int (nI (m_its (v 1) r (m_tk (v 1) r) 3))), (4, .int (nI j)), (3, .int (nI (m_wh (v 1) r (m_tk (v 1) r) (v 1 0 / 2) j))), (2, .int (nI (m_tk (v 1) r))), (0, .ref (q 0)), (1, .int (nI r))]) hx hb dX5_halves_144 hl (k := 2) rfl (by decide) (by decide) rfl (fun ls hl => ?_)
                              refine lv_goto (tgt := 63) hx hb dX5_halves_147 (by decide) ?_
                              refine lv_iload hx hb dX5_halves_63 (lv_at hl 0 rfl) ?_
                              refine o_const (k := 5) hx hb dX5_halves_65 (by decide) ?_
                              refine o_icmp_ge (tgt := 150) hx hb dX5_halves_66 (by decide) (Nat.le_of_ble_eq_true rfl) (Nat.le_of_ble_eq_true rfl) (fun c0 => absurd c0 (by decide)) (fun _ => ?_)
                              refine lv_iload hx hb dX5_halves_69 (lv_at hl 1 rfl) ?_
                              refine o_if_eq (tgt := 150) hx hb dX5_halves_71 (by decide) (Nat.le_of_ble_eq_true rfl) (fun _ => ?_) (fun c0 => absurd c0 (by decide))
                              refine lv_iload_n hx hb dX5_halves_150 rfl (lv_at hl 4 rfl) ?_
                              refine o_if_ne (tgt := 159) hx hb dX5_halves_151 (by decide) (by omega) (fun c_34 => ?_) (fun c_34 => ?_)
                              · skip
                                refine o_const (k := 1) hx hb dX5_halves_159 (by decide) ?_
                                refine lv_goto (tgt := 164) hx hb dX5_halves_160 (by decide) ?_
                                refine lv_istore_n (lv' := [(3, .int (nI 1)), (6, .int (nI 4)), (5, .int (nI 0)), (7, .int (nI (m_its (v 1) r (m_tk (v 1) r) 3))), (4, .int (nI j)), (2, .int (nI (m_tk (v 1) r))), (0, .ref (q 0)), (1, .int (nI r))]) hx hb dX5_halves_164 rfl hl (by decide) rfl (fun ls hl => ?_)
                                refine lv_iinc (v := nI (j + 1)) (lv' := [(4, .int (nI (j + 1))), (3, .int (nI 1)), (6, .int (nI 4)), (5, .int (nI 0)), (7, .int (nI (m_its (v 1) r (m_tk (v 1) r) 3))), (2, .int (nI (m_tk (v 1) r))), (0, .ref (q 0)), (1, .int (nI r))]) hx hb dX5_halves_165 hl (k := 4) rfl (o_inc1 _) (by decide) rfl (fun ls hl => ?_)
                                refine lv_goto (tgt := 36) hx hb dX5_halves_168 (by decide) ?_
                                have q_35 : nI 1 = nI (m_wh (v 1) r (m_tk (v 1) r) (v 1 0 / 2) (j + 1)) := by rw [m_wh, if_pos (Or.inl (by omega))]
                                have hl := o_lvset hl 1 rfl (congrArg Value.int q_35)
                                exact ih_2  (j + 1) (by omega) (by omega) ls (lv_sub hl [0, 1, 5, 6, 7] rfl)
                              · skip
                                refine lv_iload hx hb dX5_halves_154 (lv_at hl 1 rfl) ?_
                                refine o_if_eq (tgt := 163) hx hb dX5_halves_156 (by decide) (Nat.le_of_ble_eq_true rfl) (fun _ => ?_) (fun c0 => absurd c0 (by decide))
                                refine o_const (k := 0) hx hb dX5_halves_163 (by decide) ?_
                                refine lv_istore_n (lv' := [(3, .int (nI 0)), (6, .int (nI 4)), (5, .int (nI 0)), (7, .int (nI (m_its (v 1) r (m_tk (v 1) r) 3))), (4, .int (nI j)), (2, .int (nI (m_tk (v 1) r))), (0, .ref (q 0)), (1, .int (nI r))]) hx hb dX5_halves_164 rfl hl (by decide) rfl (fun ls hl => ?_)
                                refine lv_iinc (v := nI (j + 1)) (lv' := [(4, .int (nI (j + 1))), (3, .int (nI 0)), (6, .int (nI 4)), (5, .int (nI 0)), (7, .int (nI (m_its (v 1) r (m_tk (v 1) r) 3))), (2, .int (nI (m_tk (v 1) r))), (0, .ref (q 0)), (1, .int (nI r))]) hx hb dX5_halves_165 hl (k := 4) rfl (o_inc1 _) (by decide) rfl (fun ls hl => ?_)
                                refine lv_goto (tgt := 36) hx hb dX5_halves_168 (by decide) ?_
                                have q_36 : nI 0 = nI (m_wh (v 1) r (m_tk (v 1) r) (v 1 0 / 2) (j + 1)) := by rw [m_wh, if_neg (fun hz => by rcases hz with hz | hz; omega; have hy := hz.2; unfold m_hs at hy; rw [if_pos c_18, if_pos c_23, if_pos c_28, if_neg c_33] at hy; omega)]
                                have hl := o_lvset hl 1 rfl (congrArg Value.int q_36)
                                exact ih_2  (j + 1) (by omega) (by omega) ls (lv_sub hl [0, 1, 5, 6, 7] rfl)
                            · skip
                              refine o_const (k := 1) hx hb dX5_halves_137 (by decide) ?_
                              refine lv_goto (tgt := 142) hx hb dX5_halves_138 (by decide) ?_
                              refine lv_istore (lv' := [(5, .int (nI 1)), (7, .int (nI (m_its (v 1) r (m_tk (v 1) r) 3))), (6, .int (nI 3)), (4, .int (nI j)), (3, .int (nI (m_wh (v 1) r (m_tk (v 1) r) (v 1 0 / 2) j))), (2, .int (nI (m_tk (v 1) r))), (0, .ref (q 0)), (1, .int (nI r))]) hx hb dX5_halves_142 hl (by decide) rfl (fun ls hl => ?_)
                              refine lv_iinc (v := nI 4) (lv' := [(6, .int (nI 4)), (5, .int (nI 1)), (7, .int (nI (m_its (v 1) r (m_tk (v 1) r) 3))), (4, .int (nI j)), (3, .int (nI (m_wh (v 1) r (m_tk (v 1) r) (v 1 0 / 2) j))), (2, .int (nI (m_tk (v 1) r))), (0, .ref (q 0)), (1, .int (nI r))]) hx hb dX5_halves_144 hl (k := 2) rfl (by decide) (by decide) rfl (fun ls hl => ?_)
                              refine lv_goto (tgt := 63) hx hb dX5_halves_147 (by decide) ?_
                              refine lv_iload hx hb dX5_halves_63 (lv_at hl 0 rfl) ?_
                              refine o_const (k := 5) hx hb dX5_halves_65 (by decide) ?_
                              refine o_icmp_ge (tgt := 150) hx hb dX5_halves_66 (by decide) (Nat.le_of_ble_eq_true rfl) (Nat.le_of_ble_eq_true rfl) (fun c0 => absurd c0 (by decide)) (fun _ => ?_)
                              refine lv_iload hx hb dX5_halves_69 (lv_at hl 1 rfl) ?_
                              refine o_if_eq (tgt := 150) hx hb dX5_halves_71 (by decide) (Nat.le_of_ble_eq_true rfl) (fun c0 => absurd c0 (by decide)) (fun _ => ?_)
                              have J_7 : W p l e (headSpec wsX5_halves ({ frames := 3, cells := 0, slots := 0, locals := 66 })).room s m ([.ref (q 0), .int (nI r)] : List Value).toArray below meth cd s.heap [] 0 0 (MQ below (vp_Si (fun rz => rz = nI (m_half (v 1) r))) ([.ref (q 0), .int (nI r)] : List Value).toArray s 0 0 (fun _ => False)) (F0 m 103 ls [.int (nI (m_its (v 1) r (m_tk (v 1) r) 4))]) := by
                                have hit := m_its_lt hw r (m_tk (v 1) r) 4
                                refine lv_istore (lv' := [(7, .int (nI (m_its (v 1) r (m_tk (v 1) r) 4))), (6, .int (nI 4)), (5, .int (nI 1)), (4, .int (nI j)), (3, .int (nI (m_wh (v 1) r (m_tk (v 1) r) (v 1 0 / 2) j))), (2, .int (nI (m_tk (v 1) r))), (0, .ref (q 0)), (1, .int (nI r))]) hx hb dX5_halves_103 hl (by decide) rfl (fun ls hl => ?_)
                                refine lv_iload hx hb dX5_halves_105 (lv_at hl 0 rfl) ?_
                                refine lv_aload_n hx hb dX5_halves_107 rfl (lv_at hl 6 rfl) ?_
                                refine va_get (D := D) (ci := 5) (v := .ref (q 1)) (C := RX5) (T := TX5) (N := 10) hx hb hts inX5_halves_X5 hown hK hP 0 rfl rfl 0 (by decide) (hts (.fieldLink RX5 7 "OddNoticeModel" "now" "[I") (List.mem_of_getElem? (i := 1) (by decide +kernel))) (fun _ h9 => h9) rfl dX5_halves_108 ?_
                                refine o_bipush (k := 83) hx hb dX5_halves_111 (by decide) ?_
                                refine o_const (k := 5) hx hb dX5_halves_113 (by decide) ?_
                                refine lv_aload_n hx hb dX5_halves_114 rfl (lv_at hl 6 rfl) ?_
                                refine va_get (D := D) (ci := 5) (v := .ref (q 1)) (C := RX5) (T := TX5) (N := 10) hx hb hts inX5_halves_X5 hown hK hP 0 rfl rfl 0 (by decide) (hts (.fieldLink RX5 7 "OddNoticeModel" "now" "[I") (List.mem_of_getElem? (i := 1) (by decide +kernel))) (fun _ h9 => h9) rfl dX5_halves_115 ?_
                                refine o_const (k := 0) hx hb dX5_halves_118 (by decide) ?_
                                refine o_iald (v := nI (v 1 0)) hx hb hK hP 1 0 rfl rfl (Nat.le_of_ble_eq_true rfl) (Nat.le_of_ble_eq_true rfl) rfl dX5_halves_119 ?_
                                refine o_const (k := 2) hx hb dX5_halves_120 (by decide) ?_
                                refine o_idiv (a := (v 1 0)) (b := 2) (k := ((v 1 0) / 2)) hx hb dX5_halves_121 (by omega) (by decide) (Nat.le_of_ble_eq_true rfl) rfl ?_
                                refine lv_iload hx hb dX5_halves_122 (lv_at hl 3 rfl) ?_
                                refine lv_isub hx hb dX5_halves_124 ?_
                                refine o_ti (m_ng_eq (by omega) (by omega)) ?_
                                refine o_bipush (k := 16) hx hb dX5_halves_125 (by decide) ?_
                                refine o_irem (a := (m_ng (v 1 0 / 2) j)) (b := 16) (k := ((m_ng (v 1 0 / 2) j) % 16)) hx hb dX5_halves_127 (by omega) (by decide) (Nat.le_of_ble_eq_true rfl) rfl ?_
                                refine o_imul (a := 5) (b := ((m_ng (v 1 0 / 2) j) % 16)) (k := (5 * ((m_ng (v 1 0 / 2) j) % 16))) hx hb dX5_halves_128 rfl ?_
                                refine o_iadd (a := 83) (b := (5 * ((m_ng (v 1 0 / 2) j) % 16))) (k := (83 + 5 * ((m_ng (v 1 0 / 2) j) % 16))) hx hb dX5_halves_129 rfl ?_
                                refine lv_iload hx hb dX5_halves_130 (lv_at hl 1 rfl) ?_
                                refine o_iadd (a := (83 + 5 * ((m_ng (v 1 0 / 2) j) % 16))) (b := 4) (k := (83 + 5 * ((m_ng (v 1 0 / 2) j) % 16) + 4)) hx hb dX5_halves_132 rfl ?_
                                refine o_iald (v := nI (v 1 (83 + 5 * ((m_ng (v 1 0 / 2) j) % 16) + 4))) hx hb hK hP 1 0 rfl rfl (by omega) (Nat.le_of_ble_eq_true rfl) rfl dX5_halves_133 ?_
                                have f_37 := hw (83 + 5 * ((m_ng (v 1 0 / 2) j) % 16) + 4)
                                refine o_icmp_ne (tgt := 141) hx hb dX5_halves_134 (by decide) (by omega) (by omega) (fun c_38 => ?_) (fun c_38 => ?_)
                                · skip
                                  refine o_const (k := 0) hx hb dX5_halves_141 (by decide) ?_
                                  refine lv_istore (lv' := [(5, .int (nI 0)), (7, .int (nI (m_its (v 1) r (m_tk (v 1) r) 4))), (6, .int (nI 4)), (4, .int (nI j)), (3, .int (nI (m_wh (v 1) r (m_tk (v 1) r) (v 1 0 / 2) j))), (2, .int (nI (m_tk (v 1) r))), (0, .ref (q 0)), (1, .int (nI r))]) hx hb dX5_halves_142 hl (by decide) rfl (fun ls hl => ?_)
                                  refine lv_iinc (v := nI 5) (lv' := [(6, .int (nI 5)), (5, .int (nI 0)), (7, .int (nI (m_its (v 1) r (m_tk (v 1) r) 4))), (4, .int (nI j)), (3, .int (nI (m_wh (v 1) r (m_tk (v 1) r) (v 1 0 / 2) j))), (2, .int (nI (m_tk (v 1) r))), (0, .ref (q 0)), (1, .int (nI r))]) hx hb dX5_halves_144 hl (k := 2) rfl (by decide) (by decide) rfl (fun ls hl => ?_)
                                  refine lv_goto (tgt := 63) hx hb dX5_halves_147 (by decide) ?_
                                  refine lv_iload hx hb dX5_halves_63 (lv_at hl 0 rfl) ?_
                                  refine o_const (k := 5) hx hb dX5_halves_65 (by decide) ?_
                                  refine o_icmp_ge (tgt := 150) hx hb dX5_halves_66 (by decide) (Nat.le_of_ble_eq_true rfl) (Nat.le_of_ble_eq_true rfl) (fun _ => ?_) (fun c0 => absurd c0 (by decide))
                                  refine lv_iload_n hx hb dX5_halves_150 rfl (lv_at hl 4 rfl) ?_
                                  refine o_if_ne (tgt := 159) hx hb dX5_halves_151 (by decide) (by omega) (fun c_39 => ?_) (fun c_39 => ?_)
                                  · skip
                                    refine o_const (k := 1) hx hb dX5_halves_159 (by decide) ?_
                                    refine lv_goto (tgt := 164) hx hb dX5_halves_160 (by decide) ?_
                                    refine lv_istore_n (lv' := [(3, .int (nI 1)), (6, .int (nI 5)), (5, .int (nI 0)), (7, .int (nI (m_its (v 1) r (m_tk (v 1) r) 4))), (4, .int (nI j)), (2, .int (nI (m_tk (v 1) r))), (0, .ref (q 0)), (1, .int (nI r))]) hx hb dX5_halves_164 rfl hl (by decide) rfl (fun ls hl => ?_)
                                    refine lv_iinc (v := nI (j + 1)) (lv' := [(4, .int (nI (j + 1))), (3, .int (nI 1)), (6, .int (nI 5)), (5, .int (nI 0)), (7, .int (nI (m_its (v 1) r (m_tk (v 1) r) 4))), (2, .int (nI (m_tk (v 1) r))), (0, .ref (q 0)), (1, .int (nI r))]) hx hb dX5_halves_165 hl (k := 4) rfl (o_inc1 _) (by decide) rfl (fun ls hl => ?_)
                                    refine lv_goto (tgt := 36) hx hb dX5_halves_168 (by decide) ?_
                                    have q_40 : nI 1 = nI (m_wh (v 1) r (m_tk (v 1) r) (v 1 0 / 2) (j + 1)) := by rw [m_wh, if_pos (Or.inl (by omega))]
                                    have hl := o_lvset hl 1 rfl (congrArg Value.int q_40)
                                    exact ih_2  (j + 1) (by omega) (by omega) ls (lv_sub hl [0, 1, 5, 6, 7] rfl)
                                  · skip
                                    refine lv_iload hx hb dX5_halves_154 (lv_at hl 1 rfl) ?_
                                    refine o_if_eq (tgt := 163) hx hb dX5_halves_156 (by decide) (Nat.le_of_ble_eq_true rfl) (fun _ => ?_) (fun c0 => absurd c0 (by decide))
                                    refine o_const (k := 0) hx hb dX5_halves_163 (by decide) ?_
                                    refine lv_istore_n (lv' := [(3, .int (nI 0)), (6, .int (nI 5)), (5, .int (nI 0)), (7, .int (nI (m_its (v 1) r (m_tk (v 1) r) 4))), (4, .int (nI j)), (2, .int (nI (m_tk (v 1) r))), (0, .ref (q 0)), (1, .int (nI r))]) hx hb dX5_halves_164 rfl hl (by decide) rfl (fun ls hl => ?_)
                                    refine lv_iinc (v := nI (j + 1)) (lv' := [(4, .int (nI (j + 1))), (3, .int (nI 0)), (6, .int (nI 5)), (5, .int (nI 0)), (7, .int (nI (m_its (v 1) r (m_tk (v 1) r) 4))), (2, .int (nI (m_tk (v 1) r))), (0, .ref (q 0)), (1, .int (nI r))]) hx hb dX5_halves_165 hl (k := 4) rfl (o_inc1 _) (by decide) rfl (fun ls hl => ?_)
                                    refine lv_goto (tgt := 36) hx hb dX5_halves_168 (by decide) ?_
                                    have q_41 : nI 0 = nI (m_wh (v 1) r (m_tk (v 1) r) (v 1 0 / 2) (j + 1)) := by rw [m_wh, if_neg (fun hz => by rcases hz with hz | hz; omega; have hy := hz.2; unfold m_hs at hy; rw [if_pos c_18, if_pos c_23, if_pos c_28, if_pos c_33, if_neg c_38] at hy; omega)]
                                    have hl := o_lvset hl 1 rfl (congrArg Value.int q_41)
                                    exact ih_2  (j + 1) (by omega) (by omega) ls (lv_sub hl [0, 1, 5, 6, 7] rfl)
                                · skip
                                  refine o_const (k := 1) hx hb dX5_halves_137 (by decide) ?_
                                  refine lv_goto (tgt := 142) hx hb dX5_halves_138 (by decide) ?_
                                  refine lv_istore (lv' := [(5, .int (nI 1)), (7, .int (nI (m_its (v 1) r (m_tk (v 1) r) 4))), (6, .int (nI 4)), (4, .int (nI j)), (3, .int (nI (m_wh (v 1) r (m_tk (v 1) r) (v 1 0 / 2) j))), (2, .int (nI (m_tk (v 1) r))), (0, .ref (q 0)), (1, .int (nI r))]) hx hb dX5_halves_142 hl (by decide) rfl (fun ls hl => ?_)
                                  refine lv_iinc (v := nI 5) (lv' := [(6, .int (nI 5)), (5, .int (nI 1)), (7, .int (nI (m_its (v 1) r (m_tk (v 1) r) 4))), (4, .int (nI j)), (3, .int (nI (m_wh (v 1) r (m_tk (v 1) r) (v 1 0 / 2) j))), (2, .int (nI (m_tk (v 1) r))), (0, .ref (q 0)), (1, .int (nI r))]) hx hb dX5_halves_144 hl (k := 2) rfl (by decide) (by decide) rfl (fun ls hl => ?_)
                                  refine lv_goto (tgt := 63) hx hb dX5_halves_147 (by decide) ?_
                                  refine lv_iload hx hb dX5_halves_63 (lv_at hl 0 rfl) ?_
                                  refine o_const (k := 5) hx hb dX5_halves_65 (by decide) ?_
                                  refine o_icmp_ge (tgt := 150) hx hb dX5_halves_66 (by decide) (Nat.le_of_ble_eq_true rfl) (Nat.le_of_ble_eq_true rfl) (fun _ => ?_) (fun c0 => absurd c0 (by decide))
                                  refine lv_iload_n hx hb dX5_halves_150 rfl (lv_at hl 4 rfl) ?_
                                  refine o_if_ne (tgt := 159) hx hb dX5_halves_151 (by decide) (by omega) (fun c_42 => ?_) (fun c_42 => ?_)
                                  · skip
                                    refine o_const (k := 1) hx hb dX5_halves_159 (by decide) ?_
                                    refine lv_goto (tgt := 164) hx hb dX5_halves_160 (by decide) ?_
                                    refine lv_istore_n (lv' := [(3, .int (nI 1)), (6, .int (nI 5)), (5, .int (nI 1)), (7, .int (nI (m_its (v 1) r (m_tk (v 1) r) 4))), (4, .int (nI j)), (2, .int (nI (m_tk (v 1) r))), (0, .ref (q 0)), (1, .int (nI r))]) hx hb dX5_halves_164 rfl hl (by decide) rfl (fun ls hl => ?_)
                                    refine lv_iinc (v := nI (j + 1)) (lv' := [(4, .int (nI (j + 1))), (3, .int (nI 1)), (6, .int (nI 5)), (5, .int (nI 1)), (7, .int (nI (m_its (v 1) r (m_tk (v 1) r) 4))), (2, .int (nI (m_tk (v 1) r))), (0, .ref (q 0)), (1, .int (nI r))]) hx hb dX5_halves_165 hl (k := 4) rfl (o_inc1 _) (by decide) rfl (fun ls hl => ?_)
                                    refine lv_goto (tgt := 36) hx hb dX5_halves_168 (by decide) ?_
                                    have q_43 : nI 1 = nI (m_wh (v 1) r (m_tk (v 1) r) (v 1 0 / 2) (j + 1)) := by rw [m_wh, if_pos (Or.inl (by omega))]
                                    have hl := o_lvset hl 1 rfl (congrArg Value.int q_43)
                                    exact ih_2  (j + 1) (by omega) (by omega) ls (lv_sub hl [0, 1, 5, 6, 7] rfl)
                                  · skip
                                    refine lv_iload hx hb dX5_halves_154 (lv_at hl 1 rfl) ?_
                                    refine o_if_eq (tgt := 163) hx hb dX5_halves_156 (by decide) (Nat.le_of_ble_eq_true rfl) (fun c0 => absurd c0 (by decide)) (fun _ => ?_)
                                    refine o_const (k := 1) hx hb dX5_halves_159 (by decide) ?_
                                    refine lv_goto (tgt := 164) hx hb dX5_halves_160 (by decide) ?_
                                    refine lv_istore_n (lv' := [(3, .int (nI 1)), (6, .int (nI 5)), (5, .int (nI 1)), (7, .int (nI (m_its (v 1) r (m_tk (v 1) r) 4))), (4, .int (nI j)), (2, .int (nI (m_tk (v 1) r))), (0, .ref (q 0)), (1, .int (nI r))]) hx hb dX5_halves_164 rfl hl (by decide) rfl (fun ls hl => ?_)
                                    refine lv_iinc (v := nI (j + 1)) (lv' := [(4, .int (nI (j + 1))), (3, .int (nI 1)), (6, .int (nI 5)), (5, .int (nI 1)), (7, .int (nI (m_its (v 1) r (m_tk (v 1) r) 4))), (2, .int (nI (m_tk (v 1) r))), (0, .ref (q 0)), (1, .int (nI r))]) hx hb dX5_halves_165 hl (k := 4) rfl (o_inc1 _) (by decide) rfl (fun ls hl => ?_)
                                    refine lv_goto (tgt := 36) hx hb dX5_halves_168 (by decide) ?_
                                    have q_44 : nI 1 = nI (m_wh (v 1) r (m_tk (v 1) r) (v 1 0 / 2) (j + 1)) := by rw [m_wh, if_pos (Or.inr ⟨c_13, by unfold m_hs; rw [if_pos c_18, if_pos c_23, if_pos c_28, if_pos c_33, if_pos c_38]⟩)]
                                    have hl := o_lvset hl 1 rfl (congrArg Value.int q_44)
                                    exact ih_2  (j + 1) (by omega) (by omega) ls (lv_sub hl [0, 1, 5, 6, 7] rfl)
                              refine lv_iload hx hb dX5_halves_74 (lv_at hl 0 rfl) ?_
                              refine lv_iload_n hx hb dX5_halves_76 rfl (lv_at hl 5 rfl) ?_
                              refine o_icmp_ge (tgt := 93) hx hb dX5_halves_77 (by decide) (Nat.le_of_ble_eq_true rfl) (by omega) (fun c_45 => ?_) (fun c_45 => ?_)
                              · skip
                                refine lv_aload_n hx hb dX5_halves_93 rfl (lv_at hl 6 rfl) ?_
                                refine va_get (D := D) (ci := 5) (v := .ref (q 1)) (C := RX5) (T := TX5) (N := 10) hx hb hts inX5_halves_X5 hown hK hP 0 rfl rfl 0 (by decide) (hts (.fieldLink RX5 7 "OddNoticeModel" "now" "[I") (List.mem_of_getElem? (i := 1) (by decide +kernel))) (fun _ h9 => h9) rfl dX5_halves_94 ?_
                                refine o_bipush (k := 7) hx hb dX5_halves_97 (by decide) ?_
                                refine lv_iload hx hb dX5_halves_99 (lv_at hl 0 rfl) ?_
                                refine o_iadd (a := 7) (b := 4) (k := 11) hx hb dX5_halves_101 rfl ?_
                                refine o_iald (v := nI (v 1 11)) hx hb hK hP 1 0 rfl rfl (Nat.le_of_ble_eq_true rfl) (Nat.le_of_ble_eq_true rfl) rfl dX5_halves_102 ?_
                                have f_46 := hw 11
                                refine o_ti (show nI (v 1 11) = nI (m_its (v 1) r (m_tk (v 1) r) 4) from congrArg nI (by unfold m_its; rw [if_neg c_45])) ?_
                                exact J_7
                              · skip
                                refine lv_aload_n hx hb dX5_halves_80 rfl (lv_at hl 6 rfl) ?_
                                refine lv_iload_n hx hb dX5_halves_81 rfl (lv_at hl 7 rfl) ?_
                                refine o_bipush (k := 7) hx hb dX5_halves_82 (by decide) ?_
                                refine lv_iload hx hb dX5_halves_84 (lv_at hl 0 rfl) ?_
                                refine o_iadd (a := 7) (b := 4) (k := 11) hx hb dX5_halves_86 rfl ?_
                                refine o_ri (va_runV (As := [.int (nI r), .int (nI 11)]) (rest := []) ⟨hx, hb, hml, hown, hts⟩ (k_X5_of l D cI cR cS cL q v r 11 (by show r < 4; first | assumption | omega) (by show 11 < 17; first | assumption | omega)) (cwV 2 hts gX5_halves_X5_of rfl rfl rfl (by decide +kernel) ⟨Nat.le_of_ble_eq_true rfl, Nat.le_of_ble_eq_true rfl⟩) (o_v (o_pR hK hN hP) (va_recv hK hP (ci := 5) (q0 := 0) rfl rfl)) rfl rfl hl.1 rfl (lv_room (Nat.le_of_ble_eq_true rfl)) dX5_halves_87 ⟨Nat.zero_le _, Nat.zero_le _⟩) (fun r_48 e_47 => ?_)
                                have e_47 : r_48 = nI (v 1 (15 + 17 * r + 11)) := e_47
                                subst e_47
                                refine lv_goto (tgt := 103) hx hb dX5_halves_90 (by decide) ?_
                                refine o_ti (show nI (v 1 (15 + 17 * r + 11)) = nI (m_its (v 1) r (m_tk (v 1) r) 4) from congrArg nI (by unfold m_its; rw [if_pos c_45])) ?_
                                exact J_7
                          refine lv_iload hx hb dX5_halves_74 (lv_at hl 0 rfl) ?_
                          refine lv_iload_n hx hb dX5_halves_76 rfl (lv_at hl 5 rfl) ?_
                          refine o_icmp_ge (tgt := 93) hx hb dX5_halves_77 (by decide) (Nat.le_of_ble_eq_true rfl) (by omega) (fun c_49 => ?_) (fun c_49 => ?_)
                          · skip
                            refine lv_aload_n hx hb dX5_halves_93 rfl (lv_at hl 6 rfl) ?_
                            refine va_get (D := D) (ci := 5) (v := .ref (q 1)) (C := RX5) (T := TX5) (N := 10) hx hb hts inX5_halves_X5 hown hK hP 0 rfl rfl 0 (by decide) (hts (.fieldLink RX5 7 "OddNoticeModel" "now" "[I") (List.mem_of_getElem? (i := 1) (by decide +kernel))) (fun _ h9 => h9) rfl dX5_halves_94 ?_
                            refine o_bipush (k := 7) hx hb dX5_halves_97 (by decide) ?_
                            refine lv_iload hx hb dX5_halves_99 (lv_at hl 0 rfl) ?_
                            refine o_iadd (a := 7) (b := 3) (k := 10) hx hb dX5_halves_101 rfl ?_
                            refine o_iald (v := nI (v 1 10)) hx hb hK hP 1 0 rfl rfl (Nat.le_of_ble_eq_true rfl) (Nat.le_of_ble_eq_true rfl) rfl dX5_halves_102 ?_
                            have f_50 := hw 10
                            refine o_ti (show nI (v 1 10) = nI (m_its (v 1) r (m_tk (v 1) r) 3) from congrArg nI (by unfold m_its; rw [if_neg c_49])) ?_
                            exact J_6
                          · skip
                            refine lv_aload_n hx hb dX5_halves_80 rfl (lv_at hl 6 rfl) ?_
                            refine lv_iload_n hx hb dX5_halves_81 rfl (lv_at hl 7 rfl) ?_
                            refine o_bipush (k := 7) hx hb dX5_halves_82 (by decide) ?_
                            refine lv_iload hx hb dX5_halves_84 (lv_at hl 0 rfl) ?_
                            refine o_iadd (a := 7) (b := 3) (k := 10) hx hb dX5_halves_86 rfl ?_
                            refine o_ri (va_runV (As := [.int (nI r), .int (nI 10)]) (rest := []) ⟨hx, hb, hml, hown, hts⟩ (k_X5_of l D cI cR cS cL q v r 10 (by show r < 4; first | assumption | omega) (by show 10 < 17; first | assumption | omega)) (cwV 2 hts gX5_halves_X5_of rfl rfl rfl (by decide +kernel) ⟨Nat.le_of_ble_eq_true rfl, Nat.le_of_ble_eq_true rfl⟩) (o_v (o_pR hK hN hP) (va_recv hK hP (ci := 5) (q0 := 0) rfl rfl)) rfl rfl hl.1 rfl (lv_room (Nat.le_of_ble_eq_true rfl)) dX5_halves_87 ⟨Nat.zero_le _, Nat.zero_le _⟩) (fun r_52 e_51 => ?_)
                            have e_51 : r_52 = nI (v 1 (15 + 17 * r + 10)) := e_51
                            subst e_51
                            refine lv_goto (tgt := 103) hx hb dX5_halves_90 (by decide) ?_
                            refine o_ti (show nI (v 1 (15 + 17 * r + 10)) = nI (m_its (v 1) r (m_tk (v 1) r) 3) from congrArg nI (by unfold m_its; rw [if_pos c_49])) ?_
                            exact J_6
                      refine lv_iload hx hb dX5_halves_74 (lv_at hl 0 rfl) ?_
                      refine lv_iload_n hx hb dX5_halves_76 rfl (lv_at hl 5 rfl) ?_
                      refine o_icmp_ge (tgt := 93) hx hb dX5_halves_77 (by decide) (Nat.le_of_ble_eq_true rfl) (by omega) (fun c_53 => ?_) (fun c_53 => ?_)
                      · skip
                        refine lv_aload_n hx hb dX5_halves_93 rfl (lv_at hl 6 rfl) ?_
                        refine va_get (D := D) (ci := 5) (v := .ref (q 1)) (C := RX5) (T := TX5) (N := 10) hx hb hts inX5_halves_X5 hown hK hP 0 rfl rfl 0 (by decide) (hts (.fieldLink RX5 7 "OddNoticeModel" "now" "[I") (List.mem_of_getElem? (i := 1) (by decide +kernel))) (fun _ h9 => h9) rfl dX5_halves_94 ?_
                        refine o_bipush (k := 7) hx hb dX5_halves_97 (by decide) ?_
                        refine lv_iload hx hb dX5_halves_99 (lv_at hl 0 rfl) ?_
                        refine o_iadd (a := 7) (b := 2) (k := 9) hx hb dX5_halves_101 rfl ?_
                        refine o_iald (v := nI (v 1 9)) hx hb hK hP 1 0 rfl rfl (Nat.le_of_ble_eq_true rfl) (Nat.le_of_ble_eq_true rfl) rfl dX5_halves_102 ?_
                        have f_54 := hw 9
                        refine o_ti (show nI (v 1 9) = nI (m_its (v 1) r (m_tk (v 1) r) 2) from congrArg nI (by unfold m_its; rw [if_neg c_53])) ?_
                        exact J_5
                      · skip
                        refine lv_aload_n hx hb dX5_halves_80 rfl (lv_at hl 6 rfl) ?_
                        refine lv_iload_n hx hb dX5_halves_81 rfl (lv_at hl 7 rfl) ?_
                        refine o_bipush (k := 7) hx hb dX5_halves_82 (by decide) ?_
                        refine lv_iload hx hb dX5_halves_84 (lv_at hl 0 rfl) ?_
                        refine o_iadd (a := 7) (b := 2) (k := 9) hx hb dX5_halves_86 rfl ?_
                        refine o_ri (va_runV (As := [.int (nI r), .int (nI 9)]) (rest := []) ⟨hx, hb, hml, hown, hts⟩ (k_X5_of l D cI cR cS cL q v r 9 (by show r < 4; first | assumption | omega) (by show 9 < 17; first | assumption | omega)) (cwV 2 hts gX5_halves_X5_of rfl rfl rfl (by decide +kernel) ⟨Nat.le_of_ble_eq_true rfl, Nat.le_of_ble_eq_true rfl⟩) (o_v (o_pR hK hN hP) (va_recv hK hP (ci := 5) (q0 := 0) rfl rfl)) rfl rfl hl.1 rfl (lv_room (Nat.le_of_ble_eq_true rfl)) dX5_halves_87 ⟨Nat.zero_le _, Nat.zero_le _⟩) (fun r_56 e_55 => ?_)
                        have e_55 : r_56 = nI (v 1 (15 + 17 * r + 9)) := e_55
                        subst e_55
                        refine lv_goto (tgt := 103) hx hb dX5_halves_90 (by decide) ?_
                        refine o_ti (show nI (v 1 (15 + 17 * r + 9)) = nI (m_its (v 1) r (m_tk (v 1) r) 2) from congrArg nI (by unfold m_its; rw [if_pos c_53])) ?_
                        exact J_5
                  refine lv_iload hx hb dX5_halves_74 (lv_at hl 0 rfl) ?_
                  refine lv_iload_n hx hb dX5_halves_76 rfl (lv_at hl 5 rfl) ?_
                  refine o_icmp_ge (tgt := 93) hx hb dX5_halves_77 (by decide) (Nat.le_of_ble_eq_true rfl) (by omega) (fun c_57 => ?_) (fun c_57 => ?_)
                  · skip
                    refine lv_aload_n hx hb dX5_halves_93 rfl (lv_at hl 6 rfl) ?_
                    refine va_get (D := D) (ci := 5) (v := .ref (q 1)) (C := RX5) (T := TX5) (N := 10) hx hb hts inX5_halves_X5 hown hK hP 0 rfl rfl 0 (by decide) (hts (.fieldLink RX5 7 "OddNoticeModel" "now" "[I") (List.mem_of_getElem? (i := 1) (by decide +kernel))) (fun _ h9 => h9) rfl dX5_halves_94 ?_
                    refine o_bipush (k := 7) hx hb dX5_halves_97 (by decide) ?_
                    refine lv_iload hx hb dX5_halves_99 (lv_at hl 0 rfl) ?_
                    refine o_iadd (a := 7) (b := 1) (k := 8) hx hb dX5_halves_101 rfl ?_
                    refine o_iald (v := nI (v 1 8)) hx hb hK hP 1 0 rfl rfl (Nat.le_of_ble_eq_true rfl) (Nat.le_of_ble_eq_true rfl) rfl dX5_halves_102 ?_
                    have f_58 := hw 8
                    refine o_ti (show nI (v 1 8) = nI (m_its (v 1) r (m_tk (v 1) r) 1) from congrArg nI (by unfold m_its; rw [if_neg c_57])) ?_
                    exact J_4
                  · skip
                    refine lv_aload_n hx hb dX5_halves_80 rfl (lv_at hl 6 rfl) ?_
                    refine lv_iload_n hx hb dX5_halves_81 rfl (lv_at hl 7 rfl) ?_
                    refine o_bipush (k := 7) hx hb dX5_halves_82 (by decide) ?_
                    refine lv_iload hx hb dX5_halves_84 (lv_at hl 0 rfl) ?_
                    refine o_iadd (a := 7) (b := 1) (k := 8) hx hb dX5_halves_86 rfl ?_
                    refine o_ri (va_runV (As := [.int (nI r), .int (nI 8)]) (rest := []) ⟨hx, hb, hml, hown, hts⟩ (k_X5_of l D cI cR cS cL q v r 8 (by show r < 4; first | assumption | omega) (by show 8 < 17; first | assumption | omega)) (cwV 2 hts gX5_halves_X5_of rfl rfl rfl (by decide +kernel) ⟨Nat.le_of_ble_eq_true rfl, Nat.le_of_ble_eq_true rfl⟩) (o_v (o_pR hK hN hP) (va_recv hK hP (ci := 5) (q0 := 0) rfl rfl)) rfl rfl hl.1 rfl (lv_room (Nat.le_of_ble_eq_true rfl)) dX5_halves_87 ⟨Nat.zero_le _, Nat.zero_le _⟩) (fun r_60 e_59 => ?_)
                    have e_59 : r_60 = nI (v 1 (15 + 17 * r + 8)) := e_59
                    subst e_59
                    refine lv_goto (tgt := 103) hx hb dX5_halves_90 (by decide) ?_
                    refine o_ti (show nI (v 1 (15 + 17 * r + 8)) = nI (m_its (v 1) r (m_tk (v 1) r) 1) from congrArg nI (by unfold m_its; rw [if_pos c_57])) ?_
                    exact J_4
              refine lv_iload hx hb dX5_halves_74 (lv_at hl 0 rfl) ?_
              refine lv_iload_n hx hb dX5_halves_76 rfl (lv_at hl 4 rfl) ?_
              refine o_icmp_ge (tgt := 93) hx hb dX5_halves_77 (by decide) (Nat.le_of_ble_eq_true rfl) (by omega) (fun c_61 => ?_) (fun c_61 => ?_)
              · skip
                refine lv_aload_n hx hb dX5_halves_93 rfl (lv_at hl 5 rfl) ?_
                refine va_get (D := D) (ci := 5) (v := .ref (q 1)) (C := RX5) (T := TX5) (N := 10) hx hb hts inX5_halves_X5 hown hK hP 0 rfl rfl 0 (by decide) (hts (.fieldLink RX5 7 "OddNoticeModel" "now" "[I") (List.mem_of_getElem? (i := 1) (by decide +kernel))) (fun _ h9 => h9) rfl dX5_halves_94 ?_
                refine o_bipush (k := 7) hx hb dX5_halves_97 (by decide) ?_
                refine lv_iload hx hb dX5_halves_99 (lv_at hl 0 rfl) ?_
                refine o_iadd (a := 7) (b := 0) (k := 7) hx hb dX5_halves_101 rfl ?_
                refine o_iald (v := nI (v 1 7)) hx hb hK hP 1 0 rfl rfl (Nat.le_of_ble_eq_true rfl) (Nat.le_of_ble_eq_true rfl) rfl dX5_halves_102 ?_
                have f_62 := hw 7
                refine o_ti (show nI (v 1 7) = nI (m_its (v 1) r (m_tk (v 1) r) 0) from congrArg nI (by unfold m_its; rw [if_neg c_61])) ?_
                exact J_3
              · skip
                refine lv_aload_n hx hb dX5_halves_80 rfl (lv_at hl 5 rfl) ?_
                refine lv_iload_n hx hb dX5_halves_81 rfl (lv_at hl 6 rfl) ?_
                refine o_bipush (k := 7) hx hb dX5_halves_82 (by decide) ?_
                refine lv_iload hx hb dX5_halves_84 (lv_at hl 0 rfl) ?_
                refine o_iadd (a := 7) (b := 0) (k := 7) hx hb dX5_halves_86 rfl ?_
                refine o_ri (va_runV (As := [.int (nI r), .int (nI 7)]) (rest := []) ⟨hx, hb, hml, hown, hts⟩ (k_X5_of l D cI cR cS cL q v r 7 (by show r < 4; first | assumption | omega) (by show 7 < 17; first | assumption | omega)) (cwV 2 hts gX5_halves_X5_of rfl rfl rfl (by decide +kernel) ⟨Nat.le_of_ble_eq_true rfl, Nat.le_of_ble_eq_true rfl⟩) (o_v (o_pR hK hN hP) (va_recv hK hP (ci := 5) (q0 := 0) rfl rfl)) rfl rfl hl.1 rfl (lv_room (Nat.le_of_ble_eq_true rfl)) dX5_halves_87 ⟨Nat.zero_le _, Nat.zero_le _⟩) (fun r_64 e_63 => ?_)
                have e_63 : r_64 = nI (v 1 (15 + 17 * r + 7)) := e_63
                subst e_63
                refine lv_goto (tgt := 103) hx hb dX5_halves_90 (by decide) ?_
                refine o_ti (show nI (v 1 (15 + 17 * r + 7)) = nI (m_its (v 1) r (m_tk (v 1) r) 0) from congrArg nI (by unfold m_its; rw [if_pos c_61])) ?_
                exact J_3
      have q_65 : nI 0 = nI (m_wh (v 1) r (m_tk (v 1) r) (v 1 0 / 2) 0) := by rfl
      have hl := o_lvset hl 1 rfl (congrArg Value.int q_65)
      exact lp_2 _ 0 (by omega) (Nat.lt_succ_self _) ls (lv_sub hl [0, 1, 2, 3, 4] rfl)
    refine o_icmp_ne (tgt := 29) hx hb dX5_halves_17 (by decide) (by omega) (Nat.le_of_ble_eq_true rfl) (fun c_66 => ?_) (fun c_66 => ?_)
    · skip
      refine o_const (k := 0) hx hb dX5_halves_29 (by decide) ?_
      refine o_ti (show nI 0 = nI (m_tk (v 1) r) from congrArg nI (by unfold m_tk; (repeat' split) <;> omega)) ?_
      exact J_1
    · skip
      refine lv_aload_n hx hb dX5_halves_20 rfl (lv_at hl 0 rfl) ?_
      refine lv_iload_n hx hb dX5_halves_21 rfl (lv_at hl 1 rfl) ?_
      refine o_const (k := 2) hx hb dX5_halves_22 (by decide) ?_
      refine o_ri (va_runV (As := [.int (nI r), .int (nI 2)]) (rest := []) ⟨hx, hb, hml, hown, hts⟩ (k_X5_of l D cI cR cS cL q v r 2 (by show r < 4; first | assumption | omega) (by show 2 < 17; first | assumption | omega)) (cwV 2 hts gX5_halves_X5_of rfl rfl rfl (by decide +kernel) ⟨Nat.le_of_ble_eq_true rfl, Nat.le_of_ble_eq_true rfl⟩) (o_v (o_pR hK hN hP) (va_recv hK hP (ci := 5) (q0 := 0) rfl rfl)) rfl rfl hl.1 rfl (lv_room (Nat.le_of_ble_eq_true rfl)) dX5_halves_23 ⟨Nat.zero_le _, Nat.zero_le _⟩) (fun r_68 e_67 => ?_)
      have e_67 : r_68 = nI (v 1 (15 + 17 * r + 2)) := e_67
      subst e_67
      refine lv_goto (tgt := 30) hx hb dX5_halves_26 (by decide) ?_
      refine o_ti (show nI (v 1 (15 + 17 * r + 2)) = nI (m_tk (v 1) r) from congrArg nI (by unfold m_tk; (repeat' split) <;> omega)) ?_
      exact J_1
  · skip
    refine o_const (k := 0) hx hb dX5_halves_9 (by decide) ?_
    exact W.iret (v := nI 0) hx hb hrt (fun t ht hW => ⟨_, rfl, (congrArg nI (by unfold m_half; rw [if_neg (by omega)])), ht⟩) (fun _ h => nomatch h) dX5_halves_10
theorem inX5_wouldBeHalf_X5 : ∀ w ∈ wsX50, w ∈ wsX5_wouldBeHalf := by decide +kernel
set_option maxHeartbeats 4000000 in
set_option maxRecDepth 100000 in
theorem k_X5_wouldBeHalf (l : Launch) (D : va_G) (cI cR cS cL : ClassId) (sz : Nat) (q : Nat → Nat) (v : Nat → Nat → Nat) (b : Nat) (r : Nat) (hI : m_I b (v 1)) (hb : b < 2 ^ 28) (hr : r < 2 ^ 32) : Met l yX5_wouldBeHalf wsX5_wouldBeHalf ({ frames := 4, cells := 0, slots := 0, locals := 93 }) (va_Pc [.ref (q 0), .int (nI r)] (o_B D (o_T cI cR cS cL) (wM q cI v) sz)) (va_Qi (fun rz (_ : Unit) => rz = nI (if r < 4 then m_half (v 1) r else 0)) (fun (_ : Unit) t => va_P D vwCl (wM q cI (va_up v 0 (va_up (v 0) 2 (if r < 4 then 0 else 1)))) t.heap) (va_A (wM q cI v) sz)) 0 0 (va_A (wM q cI v) sz) := by
  refine Met.ofW (cc := cX5_wouldBeHalf) (maxL := 2) (ret := (some .int)) (by decide) rfl ?_
  intro p e s m args below meth cd s₁ B hml hv
  obtain ⟨rfl, hsz, hP, hK, hD0, hN⟩ := hv
  have hx := B.exec
  have hb := B.bytes
  have hrt := B.returns
  have hts := atoms_spec (ws := wsX5_wouldBeHalf) B.pre
  have hown : s.vm.findClass RX5 = some m.cls := findClass_of_methodNamed B.named
  have hlocks := B.notSynchronized
  subst hsz
  have hD := hD0.self (sz := s.heap.size)
  generalize hAe : va_A (wM q cI v) s.heap.size = A at hD ⊢
  have hA : ∀ q : Nat, s.heap.size ≤ q → A q := fun q h => by rw [← hAe]; exact Or.inr h
  have hS : va_S A s.heap s.heap [] := va_S.rf
  have hl := lv_entry ([.ref (q 0), .int (nI r)]) (n := 2) (Nat.le_of_ble_eq_true rfl)
  rw [lg_entry_eq]
  generalize (lg_sl ([.ref (q 0), .int (nI r)]) ++ List.replicate (2 - (lg_sl ([.ref (q 0), .int (nI r)])).length) Slot.unset).toArray = ls at hl ⊢
  have hl : lv_has ls 2 [(0, .ref (q 0)), (1, .int (nI r))] := hl
  refine lv_aload_n hx hb dX5_wouldBeHalf_0 rfl (lv_at hl 0 rfl) ?_
  refine o_const (k := 0) hx hb dX5_wouldBeHalf_1 (by decide) ?_
  refine va_put (D := D) (ci := 5) (v := .int (nI 0)) (ty := .int) (C := RX5) (T := TX5) (N := 10) hx hb hts inX5_wouldBeHalf_X5 tyX5 tyX5_ok nmX5 hown hK hP hD hS 0 rfl rfl 5 (by decide) (hts (.fieldLink RX5 22 "OddNoticeModel" "thrown" "I") (List.mem_of_getElem? (i := 1) (by decide +kernel))) (fun _ h9 => h9) rfl (by decide +kernel) rfl rfl (Nat.le_of_ble_eq_true rfl) dX5_wouldBeHalf_2 (fun H locs hP hD hS => ?_)
  have hP : va_P D vwCl (wM q cI (va_up v 0 (va_up (v 0) 2 0))) H := hP
  have hD : va_D A (wM q cI (va_up v 0 (va_up (v 0) 2 0))) := hD
  refine lv_iload_n hx hb dX5_wouldBeHalf_5 rfl (lv_at hl 1 rfl) ?_
  refine o_ri (va_runS (As := [.int (nI r)]) (rest := []) ⟨hx, hb, hml, hown, hts⟩ (k_X5_isReader l D cI cR cS cL r (by show r < 2 ^ 32; first | assumption | omega)) (va_cwS 1 hts gX5_wouldBeHalf_X5_isReader rfl rfl rfl (by decide +kernel) ⟨Nat.le_of_ble_eq_true rfl, Nat.le_of_ble_eq_true rfl⟩) (o_pR hK hN (hP.sub (ws' := []) [] rfl)) rfl rfl hl.1 rfl (lv_room (Nat.le_of_ble_eq_true rfl)) dX5_wouldBeHalf_6 ⟨Nat.zero_le _, Nat.zero_le _⟩) (fun r_2 e_1 => ?_)
  have e_1 : r_2 = nI (bn (r < 4)) := e_1
  subst e_1
  refine o_ifz (tgt := 20) hx hb dX5_wouldBeHalf_9 (by decide) (fun c_3 => ?_) (fun c_3 => ?_)
  · skip
    refine lv_aload_n hx hb dX5_wouldBeHalf_20 rfl (lv_at hl 0 rfl) ?_
    refine o_const (k := 1) hx hb dX5_wouldBeHalf_21 (by decide) ?_
    refine o_wi (va_runV (As := [.int (nI 1)]) (rest := []) ⟨hx, hb, hml, hown, hts⟩ (k_X5_fails l D cI cR cS cL H.size q (va_up v 0 (va_up (v 0) 2 0)) 1 ) (cwV 1 hts gX5_wouldBeHalf_X5_fails rfl rfl rfl (by decide +kernel) ⟨Nat.le_of_ble_eq_true rfl, Nat.le_of_ble_eq_true rfl⟩) (o_v (o_pB hK hN hP hD) (va_recv hK hP (ci := 5) (q0 := 0) rfl rfl)) rfl rfl hl.1 rfl (lv_room (Nat.le_of_ble_eq_true rfl)) dX5_wouldBeHalf_22 ⟨Nat.zero_le _, Nat.zero_le _⟩) hP hD hS hA [0, 1, 2, 3, 4] (by decide) rfl (fun _ => rfl) (fun r_5 _ H locs e_4 hP hD hS => ?_)
    have e_4 : r_5 = nI 0 := e_4
    subst e_4
    have hP : va_P D vwCl (wM q cI (va_up v 0 (va_up (v 0) 2 1))) H := hP
    have hD : va_D A (wM q cI (va_up v 0 (va_up (v 0) 2 1))) := hD
    have w_6 : (wM q cI (va_up v 0 (va_up (v 0) 2 (if r < 4 then 0 else 1)))) = (wM q cI (va_up v 0 (va_up (v 0) 2 1))) := (by rw [show (if r < 4 then 0 else 1) = 1 from by (repeat' split) <;> omega])
    rw [← w_6] at hP
    exact W.iret (v := nI 0) hx hb hrt (fun t ht hW => ⟨⟨_, (), rfl, (congrArg nI (by (repeat' split) <;> first | rfl | omega)), by show va_P D vwCl _ t.heap; rw [ht]; exact hP⟩, hS.F ht⟩) hS.2.2 dX5_wouldBeHalf_25
  · skip
    refine lv_aload_n hx hb dX5_wouldBeHalf_12 rfl (lv_at hl 0 rfl) ?_
    refine lv_iload_n hx hb dX5_wouldBeHalf_13 rfl (lv_at hl 1 rfl) ?_
    refine o_ri (va_runV (As := [.int (nI r)]) (rest := []) ⟨hx, hb, hml, hown, hts⟩ (k_X5_halves l D cI cR cS cL q (va_up v 0 (va_up (v 0) 2 0)) b r (hI) (by show b < 2 ^ 28; first | assumption | omega) (by show r < 4; first | assumption | omega)) (cwV 1 hts gX5_wouldBeHalf_X5_halves rfl rfl rfl (by decide +kernel) ⟨Nat.le_of_ble_eq_true rfl, Nat.le_of_ble_eq_true rfl⟩) (o_v (o_pR hK hN hP) (va_recv hK hP (ci := 5) (q0 := 0) rfl rfl)) rfl rfl hl.1 rfl (lv_room (Nat.le_of_ble_eq_true rfl)) dX5_wouldBeHalf_14 ⟨Nat.zero_le _, Nat.zero_le _⟩) (fun r_8 e_7 => ?_)
    have e_7 : r_8 = nI (m_half (v 1) r) := e_7
    subst e_7
    have gv_9 := m_half_le (v 1) r
    refine lv_goto (tgt := 25) hx hb dX5_wouldBeHalf_17 (by decide) ?_
    have w_10 : (wM q cI (va_up v 0 (va_up (v 0) 2 (if r < 4 then 0 else 1)))) = (wM q cI (va_up v 0 (va_up (v 0) 2 0))) := (by rw [show (if r < 4 then 0 else 1) = 0 from by (repeat' split) <;> omega])
    rw [← w_10] at hP
    exact W.iret (v := nI (m_half (v 1) r)) hx hb hrt (fun t ht hW => ⟨⟨_, (), rfl, (congrArg nI (by (repeat' split) <;> first | rfl | omega)), by show va_P D vwCl _ t.heap; rw [ht]; exact hP⟩, hS.F ht⟩) hS.2.2 dX5_wouldBeHalf_25
