theorem inX5_same_X5 : ∀ w ∈ wsX50, w ∈ wsX5_same := by decide +kernel
set_option maxHeartbeats 4000000 in
set_option maxRecDepth 100000 in
theorem k_X5_same (l : Launch) (D : va_G) (cI cR cS cL : ClassId) (q : Nat → Nat) (v : Nat → Nat → Nat) (fr : Nat) (hw : ∀ k, v 1 k < 2 ^ 32) (hn : v 1 0 < 2 ^ 30) (hf : fr + 5 ≤ 163) : Met l yX5_same wsX5_same ({ frames := 2, cells := 0, slots := 0, locals := 43 }) (va_Pc [.ref (q 0), .int (nI fr)] (o_R D (o_T cI cR cS cL) (wM q cI v))) (vp_Si (fun rz => rz = nI (m_fd (v 1) fr (v 1 0 / 2) 16))) 0 0 (fun _ => False) := by
  refine Met.ofW (cc := cX5_same) (maxL := 7) (ret := (some .int)) (by decide) rfl ?_
  intro p e s m args below meth cd s₁ B hml hv
  obtain ⟨rfl, hP, hK, hN⟩ := hv
  have hx := B.exec
  have hb := B.bytes
  have hrt := B.returns
  have hts := atoms_spec (ws := wsX5_same) B.pre
  have hown : s.vm.findClass RX5 = some m.cls := findClass_of_methodNamed B.named
  have hlocks := B.notSynchronized
  have hl := lv_entry ([.ref (q 0), .int (nI fr)]) (n := 7) (Nat.le_of_ble_eq_true rfl)
  rw [lg_entry_eq]
  generalize (lg_sl ([.ref (q 0), .int (nI fr)]) ++ List.replicate (7 - (lg_sl ([.ref (q 0), .int (nI fr)])).length) Slot.unset).toArray = ls at hl ⊢
  have hl : lv_has ls 7 [(0, .ref (q 0)), (1, .int (nI fr))] := hl
  refine o_const (k := 4294967295) hx hb dX5_same_0 (by decide) ?_
  refine lv_istore_n (lv' := [(2, .int (nI 4294967295)), (0, .ref (q 0)), (1, .int (nI fr))]) hx hb dX5_same_1 rfl hl (by decide) rfl (fun ls hl => ?_)
  refine lv_aload_n hx hb dX5_same_2 rfl (lv_at hl 1 rfl) ?_
  refine va_get (D := D) (ci := 5) (v := .ref (q 1)) (C := RX5) (T := TX5) (N := 10) hx hb hts inX5_same_X5 hown hK hP 0 rfl rfl 0 (by decide) (hts (.fieldLink RX5 7 "OddNoticeModel" "now" "[I") (List.mem_of_getElem? (i := 1) (by decide +kernel))) (fun _ h9 => h9) rfl dX5_same_3 ?_
  refine o_const (k := 0) hx hb dX5_same_6 (by decide) ?_
  refine o_iald (v := nI (v 1 0)) hx hb hK hP 1 0 rfl rfl (Nat.le_of_ble_eq_true rfl) (Nat.le_of_ble_eq_true rfl) rfl dX5_same_7 ?_
  have f_1 := hw 0
  refine o_const (k := 2) hx hb dX5_same_8 (by decide) ?_
  refine o_idiv (a := (v 1 0)) (b := 2) (k := ((v 1 0) / 2)) hx hb dX5_same_9 (by omega) (by decide) (Nat.le_of_ble_eq_true rfl) rfl ?_
  refine lv_istore_n (lv' := [(3, .int (nI ((v 1 0) / 2))), (2, .int (nI 4294967295)), (0, .ref (q 0)), (1, .int (nI fr))]) hx hb dX5_same_10 rfl hl (by decide) rfl (fun ls hl => ?_)
  refine lv_iload_n hx hb dX5_same_11 rfl (lv_at hl 0 rfl) ?_
  refine o_bipush (k := 16) hx hb dX5_same_12 (by decide) ?_
  refine lv_isub hx hb dX5_same_14 ?_
  refine o_const (k := 1) hx hb dX5_same_15 (by decide) ?_
  refine lv_iadd hx hb dX5_same_16 ?_
  refine o_ti m_nt_0 ?_
  refine lv_istore (lv' := [(4, .int (nI (m_nt (v 1 0 / 2) 0))), (3, .int (nI ((v 1 0) / 2))), (2, .int (nI 4294967295)), (0, .ref (q 0)), (1, .int (nI fr))]) hx hb dX5_same_17 hl (by decide) rfl (fun ls hl => ?_)
  have lp_1 : ∀ (fu : Nat) (j : Nat), j ≤ 16 → 16 - j < fu → ∀ (ls : Array Slot) (hl : lv_has ls 7 [(4, .int (nI (m_nt (v 1 0 / 2) j))), (3, .int (nI ((v 1 0) / 2))), (2, .int (nI (m_fd (v 1) fr (v 1 0 / 2) j))), (0, .ref (q 0)), (1, .int (nI fr))]), W p l e (headSpec wsX5_same ({ frames := 2, cells := 0, slots := 0, locals := 43 })).room s m ([.ref (q 0), .int (nI fr)] : List Value).toArray below meth cd s.heap [] 0 0 (MQ below (vp_Si (fun rz => rz = nI (m_fd (v 1) fr (v 1 0 / 2) 16))) ([.ref (q 0), .int (nI fr)] : List Value).toArray s 0 0 (fun _ => False)) (F0 m 19 ls []) := by
    intro fu
    induction fu with
    | zero => intro j hj hm; exact absurd hm (Nat.not_lt_zero _)
    | succ fu ih_1 =>
      intro j hj hm_1 ls hl
      have hnt := m_nt_or (v 1 0 / 2) j
      refine lv_iload hx hb dX5_same_19 (lv_at hl 0 rfl) ?_
      refine lv_iload_n hx hb dX5_same_21 rfl (lv_at hl 1 rfl) ?_
      refine o_icmp_gt_s (tgt := 108) hx hb dX5_same_22 (by decide) (by omega) (by omega) (fun c_2 => ?_) (fun c_2 => ?_)
      · skip
        refine lv_iload_n hx hb dX5_same_108 rfl (lv_at hl 2 rfl) ?_
        exact W.iret (v := nI (m_fd (v 1) fr (v 1 0 / 2) j)) hx hb hrt (fun t ht hW => ⟨_, rfl, (congrArg nI (by rw [show j = 16 by omega])), ht⟩) (fun _ h => nomatch h) dX5_same_109
      · skip
        refine lv_aload_n hx hb dX5_same_25 rfl (lv_at hl 3 rfl) ?_
        refine lv_iload hx hb dX5_same_26 (lv_at hl 0 rfl) ?_
        refine o_ri (va_runV (As := [.int (nI (m_nt (v 1 0 / 2) j))]) (rest := []) ⟨hx, hb, hml, hown, hts⟩ (k_X5_isKept l D cI cR cS cL q v (m_nt (v 1 0 / 2) j) (by show v 1 0 < 2 ^ 30; first | assumption | omega) (by show (m_nt (v 1 0 / 2) j) < 2 ^ 32; first | assumption | omega)) (cwV 1 hts gX5_same_X5_isKept rfl rfl rfl (by decide +kernel) ⟨Nat.le_of_ble_eq_true rfl, Nat.le_of_ble_eq_true rfl⟩) (o_v (o_pR hK hN hP) (va_recv hK hP (ci := 5) (q0 := 0) rfl rfl)) rfl rfl hl.1 rfl (lv_room (Nat.le_of_ble_eq_true rfl)) dX5_same_28 ⟨Nat.zero_le _, Nat.zero_le _⟩) (fun r_4 e_3 => ?_)
        have e_3 : r_4 = nI (bn ((m_nt (v 1 0 / 2) j) ≤ v 1 0 / 2 ∧ v 1 0 / 2 - (m_nt (v 1 0 / 2) j) < 16)) := e_3
        subst e_3
        refine lv_istore (lv' := [(5, .int (nI (bn ((m_nt (v 1 0 / 2) j) ≤ v 1 0 / 2 ∧ v 1 0 / 2 - (m_nt (v 1 0 / 2) j) < 16)))), (4, .int (nI (m_nt (v 1 0 / 2) j))), (3, .int (nI ((v 1 0) / 2))), (2, .int (nI (m_fd (v 1) fr (v 1 0 / 2) j))), (0, .ref (q 0)), (1, .int (nI fr))]) hx hb dX5_same_31 hl (by decide) rfl (fun ls hl => ?_)
        refine o_const (k := 0) hx hb dX5_same_33 (by decide) ?_
        refine lv_istore (lv' := [(6, .int (nI 0)), (5, .int (nI (bn ((m_nt (v 1 0 / 2) j) ≤ v 1 0 / 2 ∧ v 1 0 / 2 - (m_nt (v 1 0 / 2) j) < 16)))), (4, .int (nI (m_nt (v 1 0 / 2) j))), (3, .int (nI ((v 1 0) / 2))), (2, .int (nI (m_fd (v 1) fr (v 1 0 / 2) j))), (0, .ref (q 0)), (1, .int (nI fr))]) hx hb dX5_same_34 hl (by decide) rfl (fun ls hl => ?_)
        refine lv_iload hx hb dX5_same_36 (lv_at hl 0 rfl) ?_
        refine o_const (k := 5) hx hb dX5_same_38 (by decide) ?_
        refine o_icmp_ge (tgt := 90) hx hb dX5_same_39 (by decide) (Nat.le_of_ble_eq_true rfl) (Nat.le_of_ble_eq_true rfl) (fun c0 => absurd c0 (by decide)) (fun _ => ?_)
        refine lv_iload hx hb dX5_same_42 (lv_at hl 1 rfl) ?_
        refine o_ifz (tgt := 90) hx hb dX5_same_44 (by decide) (fun c_5 => ?_) (fun c_5 => ?_)
        · skip
          refine lv_iload hx hb dX5_same_90 (lv_at hl 1 rfl) ?_
          refine o_ifz (tgt := 100) hx hb dX5_same_92 (by decide) (fun _ => ?_) (fun z => absurd z c_5)
          refine lv_iload_n hx hb dX5_same_100 rfl (lv_at hl 4 rfl) ?_
          refine lv_istore_n (lv' := [(2, .int (nI (m_fd (v 1) fr (v 1 0 / 2) j))), (6, .int (nI 0)), (5, .int (nI (bn ((m_nt (v 1 0 / 2) j) ≤ v 1 0 / 2 ∧ v 1 0 / 2 - (m_nt (v 1 0 / 2) j) < 16)))), (4, .int (nI (m_nt (v 1 0 / 2) j))), (3, .int (nI ((v 1 0) / 2))), (0, .ref (q 0)), (1, .int (nI fr))]) hx hb dX5_same_101 rfl hl (by decide) rfl (fun ls hl => ?_)
          refine lv_iinc (v := nI ((m_nt (v 1 0 / 2) j) + 1)) (lv' := [(4, .int (nI ((m_nt (v 1 0 / 2) j) + 1))), (2, .int (nI (m_fd (v 1) fr (v 1 0 / 2) j))), (6, .int (nI 0)), (5, .int (nI (bn ((m_nt (v 1 0 / 2) j) ≤ v 1 0 / 2 ∧ v 1 0 / 2 - (m_nt (v 1 0 / 2) j) < 16)))), (3, .int (nI ((v 1 0) / 2))), (0, .ref (q 0)), (1, .int (nI fr))]) hx hb dX5_same_102 hl (k := 3) rfl (o_inc1 _) (by decide) rfl (fun ls hl => ?_)
          refine lv_goto (tgt := 19) hx hb dX5_same_105 (by decide) ?_
          have q_6 : nI ((m_nt (v 1 0 / 2) j) + 1) = nI (m_nt (v 1 0 / 2) (j + 1)) := by exact m_nt_s _ _
          have hl := o_lvset hl 0 rfl (congrArg Value.int q_6)
          have q_7 : nI (m_fd (v 1) fr (v 1 0 / 2) j) = nI (m_fd (v 1) fr (v 1 0 / 2) (j + 1)) := by exact congrArg nI (Eq.symm (show m_fd (v 1) fr (v 1 0 / 2) (j + 1) = _ from if_neg (fun hz => by omega)))
          have hl := o_lvset hl 1 rfl (congrArg Value.int q_7)
          exact ih_1  (j + 1) (by omega) (by omega) ls (lv_sub hl [0, 4, 1, 5, 6] rfl)
        · skip
          refine lv_aload_n hx hb dX5_same_47 rfl (lv_at hl 5 rfl) ?_
          refine va_get (D := D) (ci := 5) (v := .ref (q 1)) (C := RX5) (T := TX5) (N := 10) hx hb hts inX5_same_X5 hown hK hP 0 rfl rfl 0 (by decide) (hts (.fieldLink RX5 7 "OddNoticeModel" "now" "[I") (List.mem_of_getElem? (i := 1) (by decide +kernel))) (fun _ h9 => h9) rfl dX5_same_48 ?_
          refine lv_iload_n hx hb dX5_same_51 rfl (lv_at hl 6 rfl) ?_
          refine lv_iload hx hb dX5_same_52 (lv_at hl 0 rfl) ?_
          refine o_iadd (a := fr) (b := 0) (k := fr) hx hb dX5_same_54 rfl ?_
          refine o_iald (v := nI (v 1 fr)) hx hb hK hP 1 0 rfl rfl (by omega) (Nat.le_of_ble_eq_true rfl) rfl dX5_same_55 ?_
          have f_8 := hw fr
          refine lv_aload_n hx hb dX5_same_56 rfl (lv_at hl 5 rfl) ?_
          refine va_get (D := D) (ci := 5) (v := .ref (q 1)) (C := RX5) (T := TX5) (N := 10) hx hb hts inX5_same_X5 hown hK hP 0 rfl rfl 0 (by decide) (hts (.fieldLink RX5 7 "OddNoticeModel" "now" "[I") (List.mem_of_getElem? (i := 1) (by decide +kernel))) (fun _ h9 => h9) rfl dX5_same_57 ?_
          refine o_bipush (k := 83) hx hb dX5_same_60 (by decide) ?_
          refine o_const (k := 5) hx hb dX5_same_62 (by decide) ?_
          refine lv_iload hx hb dX5_same_63 (lv_at hl 2 rfl) ?_
          refine o_bipush (k := 16) hx hb dX5_same_65 (by decide) ?_
          refine o_irem (a := (m_nt (v 1 0 / 2) j)) (b := 16) (k := ((m_nt (v 1 0 / 2) j) % 16)) hx hb dX5_same_67 (by omega) (by decide) (Nat.le_of_ble_eq_true rfl) rfl ?_
          refine o_imul (a := 5) (b := ((m_nt (v 1 0 / 2) j) % 16)) (k := (5 * ((m_nt (v 1 0 / 2) j) % 16))) hx hb dX5_same_68 rfl ?_
          refine o_iadd (a := 83) (b := (5 * ((m_nt (v 1 0 / 2) j) % 16))) (k := (83 + 5 * ((m_nt (v 1 0 / 2) j) % 16))) hx hb dX5_same_69 rfl ?_
          refine lv_iload hx hb dX5_same_70 (lv_at hl 0 rfl) ?_
          refine o_iadd (a := (83 + 5 * ((m_nt (v 1 0 / 2) j) % 16))) (b := 0) (k := (83 + 5 * ((m_nt (v 1 0 / 2) j) % 16))) hx hb dX5_same_72 rfl ?_
          refine o_iald (v := nI (v 1 (83 + 5 * ((m_nt (v 1 0 / 2) j) % 16)))) hx hb hK hP 1 0 rfl rfl (by omega) (Nat.le_of_ble_eq_true rfl) rfl dX5_same_73 ?_
          have f_9 := hw (83 + 5 * ((m_nt (v 1 0 / 2) j) % 16))
          refine o_icmp_ne (tgt := 81) hx hb dX5_same_74 (by decide) (by omega) (by omega) (fun c_10 => ?_) (fun c_10 => ?_)
          · skip
            refine o_const (k := 0) hx hb dX5_same_81 (by decide) ?_
            refine lv_istore (lv' := [(5, .int (nI 0)), (6, .int (nI 0)), (4, .int (nI (m_nt (v 1 0 / 2) j))), (3, .int (nI ((v 1 0) / 2))), (2, .int (nI (m_fd (v 1) fr (v 1 0 / 2) j))), (0, .ref (q 0)), (1, .int (nI fr))]) hx hb dX5_same_82 hl (by decide) rfl (fun ls hl => ?_)
            refine lv_iinc (v := nI 1) (lv' := [(6, .int (nI 1)), (5, .int (nI 0)), (4, .int (nI (m_nt (v 1 0 / 2) j))), (3, .int (nI ((v 1 0) / 2))), (2, .int (nI (m_fd (v 1) fr (v 1 0 / 2) j))), (0, .ref (q 0)), (1, .int (nI fr))]) hx hb dX5_same_84 hl (k := 1) rfl (by decide) (by decide) rfl (fun ls hl => ?_)
            refine lv_goto (tgt := 36) hx hb dX5_same_87 (by decide) ?_
            refine lv_iload hx hb dX5_same_36 (lv_at hl 0 rfl) ?_
            refine o_const (k := 5) hx hb dX5_same_38 (by decide) ?_
            refine o_icmp_ge (tgt := 90) hx hb dX5_same_39 (by decide) (Nat.le_of_ble_eq_true rfl) (Nat.le_of_ble_eq_true rfl) (fun c0 => absurd c0 (by decide)) (fun _ => ?_)
            refine lv_iload hx hb dX5_same_42 (lv_at hl 1 rfl) ?_
            refine o_if_eq (tgt := 90) hx hb dX5_same_44 (by decide) (Nat.le_of_ble_eq_true rfl) (fun _ => ?_) (fun c0 => absurd c0 (by decide))
            refine lv_iload hx hb dX5_same_90 (lv_at hl 1 rfl) ?_
            refine o_if_eq (tgt := 100) hx hb dX5_same_92 (by decide) (Nat.le_of_ble_eq_true rfl) (fun _ => ?_) (fun c0 => absurd c0 (by decide))
            refine lv_iload_n hx hb dX5_same_100 rfl (lv_at hl 4 rfl) ?_
            refine lv_istore_n (lv' := [(2, .int (nI (m_fd (v 1) fr (v 1 0 / 2) j))), (6, .int (nI 1)), (5, .int (nI 0)), (4, .int (nI (m_nt (v 1 0 / 2) j))), (3, .int (nI ((v 1 0) / 2))), (0, .ref (q 0)), (1, .int (nI fr))]) hx hb dX5_same_101 rfl hl (by decide) rfl (fun ls hl => ?_)
            refine lv_iinc (v := nI ((m_nt (v 1 0 / 2) j) + 1)) (lv' := [(4, .int (nI ((m_nt (v 1 0 / 2) j) + 1))), (2, .int (nI (m_fd (v 1) fr (v 1 0 / 2) j))), (6, .int (nI 1)), (5, .int (nI 0)), (3, .int (nI ((v 1 0) / 2))), (0, .ref (q 0)), (1, .int (nI fr))]) hx hb dX5_same_102 hl (k := 3) rfl (o_inc1 _) (by decide) rfl (fun ls hl => ?_)
            refine lv_goto (tgt := 19) hx hb dX5_same_105 (by decide) ?_
            have q_11 : nI ((m_nt (v 1 0 / 2) j) + 1) = nI (m_nt (v 1 0 / 2) (j + 1)) := by exact m_nt_s _ _
            have hl := o_lvset hl 0 rfl (congrArg Value.int q_11)
            have q_12 : nI (m_fd (v 1) fr (v 1 0 / 2) j) = nI (m_fd (v 1) fr (v 1 0 / 2) (j + 1)) := by exact congrArg nI (Eq.symm (show m_fd (v 1) fr (v 1 0 / 2) (j + 1) = _ from if_neg (fun hz => by have hy := hz.2; unfold m_sm at hy; rw [if_neg c_10] at hy; omega)))
            have hl := o_lvset hl 1 rfl (congrArg Value.int q_12)
            exact ih_1  (j + 1) (by omega) (by omega) ls (lv_sub hl [0, 4, 1, 5, 6] rfl)
          · skip
            refine o_const (k := 1) hx hb dX5_same_77 (by decide) ?_
            refine lv_goto (tgt := 82) hx hb dX5_same_78 (by decide) ?_
            refine lv_istore (lv' := [(5, .int (nI 1)), (6, .int (nI 0)), (4, .int (nI (m_nt (v 1 0 / 2) j))), (3, .int (nI ((v 1 0) / 2))), (2, .int (nI (m_fd (v 1) fr (v 1 0 / 2) j))), (0, .ref (q 0)), (1, .int (nI fr))]) hx hb dX5_same_82 hl (by decide) rfl (fun ls hl => ?_)
            refine lv_iinc (v := nI 1) (lv' := [(6, .int (nI 1)), (5, .int (nI 1)), (4, .int (nI (m_nt (v 1 0 / 2) j))), (3, .int (nI ((v 1 0) / 2))), (2, .int (nI (m_fd (v 1) fr (v 1 0 / 2) j))), (0, .ref (q 0)), (1, .int (nI fr))]) hx hb dX5_same_84 hl (k := 1) rfl (by decide) (by decide) rfl (fun ls hl => ?_)
            refine lv_goto (tgt := 36) hx hb dX5_same_87 (by decide) ?_
            refine lv_iload hx hb dX5_same_36 (lv_at hl 0 rfl) ?_
            refine o_const (k := 5) hx hb dX5_same_38 (by decide) ?_
            refine o_icmp_ge (tgt := 90) hx hb dX5_same_39 (by decide) (Nat.le_of_ble_eq_true rfl) (Nat.le_of_ble_eq_true rfl) (fun c0 => absurd c0 (by decide)) (fun _ => ?_)
            refine lv_iload hx hb dX5_same_42 (lv_at hl 1 rfl) ?_
            refine o_if_eq (tgt := 90) hx hb dX5_same_44 (by decide) (Nat.le_of_ble_eq_true rfl) (fun c0 => absurd c0 (by decide)) (fun _ => ?_)
            refine lv_aload_n hx hb dX5_same_47 rfl (lv_at hl 5 rfl) ?_
            refine va_get (D := D) (ci := 5) (v := .ref (q 1)) (C := RX5) (T := TX5) (N := 10) hx hb hts inX5_same_X5 hown hK hP 0 rfl rfl 0 (by decide) (hts (.fieldLink RX5 7 "OddNoticeModel" "now" "[I") (List.mem_of_getElem? (i := 1) (by decide +kernel))) (fun _ h9 => h9) rfl dX5_same_48 ?_
            refine lv_iload_n hx hb dX5_same_51 rfl (lv_at hl 6 rfl) ?_
            refine lv_iload hx hb dX5_same_52 (lv_at hl 0 rfl) ?_
            refine o_iadd (a := fr) (b := 1) (k := (fr + 1)) hx hb dX5_same_54 rfl ?_
            refine o_iald (v := nI (v 1 (fr + 1))) hx hb hK hP 1 0 rfl rfl (by omega) (Nat.le_of_ble_eq_true rfl) rfl dX5_same_55 ?_
            have f_13 := hw (fr + 1)
            refine lv_aload_n hx hb dX5_same_56 rfl (lv_at hl 5 rfl) ?_
            refine va_get (D := D) (ci := 5) (v := .ref (q 1)) (C := RX5) (T := TX5) (N := 10) hx hb hts inX5_same_X5 hown hK hP 0 rfl rfl 0 (by decide) (hts (.fieldLink RX5 7 "OddNoticeModel" "now" "[I") (List.mem_of_getElem? (i := 1) (by decide +kernel))) (fun _ h9 => h9) rfl dX5_same_57 ?_
            refine o_bipush (k := 83) hx hb dX5_same_60 (by decide) ?_
            refine o_const (k := 5) hx hb dX5_same_62 (by decide) ?_
            refine lv_iload hx hb dX5_same_63 (lv_at hl 2 rfl) ?_
            refine o_bipush (k := 16) hx hb dX5_same_65 (by decide) ?_
            refine o_irem (a := (m_nt (v 1 0 / 2) j)) (b := 16) (k := ((m_nt (v 1 0 / 2) j) % 16)) hx hb dX5_same_67 (by omega) (by decide) (Nat.le_of_ble_eq_true rfl) rfl ?_
            refine o_imul (a := 5) (b := ((m_nt (v 1 0 / 2) j) % 16)) (k := (5 * ((m_nt (v 1 0 / 2) j) % 16))) hx hb dX5_same_68 rfl ?_
            refine o_iadd (a := 83) (b := (5 * ((m_nt (v 1 0 / 2) j) % 16))) (k := (83 + 5 * ((m_nt (v 1 0 / 2) j) % 16))) hx hb dX5_same_69 rfl ?_
            refine lv_iload hx hb dX5_same_70 (lv_at hl 0 rfl) ?_
            refine o_iadd (a := (83 + 5 * ((m_nt (v 1 0 / 2) j) % 16))) (b := 1) (k := (83 + 5 * ((m_nt (v 1 0 / 2) j) % 16) + 1)) hx hb dX5_same_72 rfl ?_
            refine o_iald (v := nI (v 1 (83 + 5 * ((m_nt (v 1 0 / 2) j) % 16) + 1))) hx hb hK hP 1 0 rfl rfl (by omega) (Nat.le_of_ble_eq_true rfl) rfl dX5_same_73 ?_
            have f_14 := hw (83 + 5 * ((m_nt (v 1 0 / 2) j) % 16) + 1)
            refine o_icmp_ne (tgt := 81) hx hb dX5_same_74 (by decide) (by omega) (by omega) (fun c_15 => ?_) (fun c_15 => ?_)
            · skip
              refine o_const (k := 0) hx hb dX5_same_81 (by decide) ?_
              refine lv_istore (lv' := [(5, .int (nI 0)), (6, .int (nI 1)), (4, .int (nI (m_nt (v 1 0 / 2) j))), (3, .int (nI ((v 1 0) / 2))), (2, .int (nI (m_fd (v 1) fr (v 1 0 / 2) j))), (0, .ref (q 0)), (1, .int (nI fr))]) hx hb dX5_same_82 hl (by decide) rfl (fun ls hl => ?_)
              refine lv_iinc (v := nI 2) (lv' := [(6, .int (nI 2)), (5, .int (nI 0)), (4, .int (nI (m_nt (v 1 0 / 2) j))), (3, .int (nI ((v 1 0) / 2))), (2, .int (nI (m_fd (v 1) fr (v 1 0 / 2) j))), (0, .ref (q 0)), (1, .int (nI fr))]) hx hb dX5_same_84 hl (k := 1) rfl (by decide) (by decide) rfl (fun ls hl => ?_)
              refine lv_goto (tgt := 36) hx hb dX5_same_87 (by decide) ?_
              refine lv_iload hx hb dX5_same_36 (lv_at hl 0 rfl) ?_
              refine o_const (k := 5) hx hb dX5_same_38 (by decide) ?_
              refine o_icmp_ge (tgt := 90) hx hb dX5_same_39 (by decide) (Nat.le_of_ble_eq_true rfl) (Nat.le_of_ble_eq_true rfl) (fun c0 => absurd c0 (by decide)) (fun _ => ?_)
              refine lv_iload hx hb dX5_same_42 (lv_at hl 1 rfl) ?_
              refine o_if_eq (tgt := 90) hx hb dX5_same_44 (by decide) (Nat.le_of_ble_eq_true rfl) (fun _ => ?_) (fun c0 => absurd c0 (by decide))
              refine lv_iload hx hb dX5_same_90 (lv_at hl 1 rfl) ?_
              refine o_if_eq (tgt := 100) hx hb dX5_same_92 (by decide) (Nat.le_of_ble_eq_true rfl) (fun _ => ?_) (fun c0 => absurd c0 (by decide))
              refine lv_iload_n hx hb dX5_same_100 rfl (lv_at hl 4 rfl) ?_
              refine lv_istore_n (lv' := [(2, .int (nI (m_fd (v 1) fr (v 1 0 / 2) j))), (6, .int (nI 2)), (5, .int (nI 0)), (4, .int (nI (m_nt (v 1 0 / 2) j))), (3, .int (nI ((v 1 0) / 2))), (0, .ref (q 0)), (1, .int (nI fr))]) hx hb dX5_same_101 rfl hl (by decide) rfl (fun ls hl => ?_)
              refine lv_iinc (v := nI ((m_nt (v 1 0 / 2) j) + 1)) (lv' := [(4, .int (nI ((m_nt (v 1 0 / 2) j) + 1))), (2, .int (nI (m_fd (v 1) fr (v 1 0 / 2) j))), (6, .int (nI 2)), (5, .int (nI 0)), (3, .int (nI ((v 1 0) / 2))), (0, .ref (q 0)), (1, .int (nI fr))]) hx hb dX5_same_102 hl (k := 3) rfl (o_inc1 _) (by decide) rfl (fun ls hl => ?_)
              refine lv_goto (tgt := 19) hx hb dX5_same_105 (by decide) ?_
              have q_16 : nI ((m_nt (v 1 0 / 2) j) + 1) = nI (m_nt (v 1 0 / 2) (j + 1)) := by exact m_nt_s _ _
              have hl := o_lvset hl 0 rfl (congrArg Value.int q_16)
              have q_17 : nI (m_fd (v 1) fr (v 1 0 / 2) j) = nI (m_fd (v 1) fr (v 1 0 / 2) (j + 1)) := by exact congrArg nI (Eq.symm (show m_fd (v 1) fr (v 1 0 / 2) (j + 1) = _ from if_neg (fun hz => by have hy := hz.2; unfold m_sm at hy; rw [if_pos c_10, if_neg c_15] at hy; omega)))
              have hl := o_lvset hl 1 rfl (congrArg Value.int q_17)
              exact ih_1  (j + 1) (by omega) (by omega) ls (lv_sub hl [0, 4, 1, 5, 6] rfl)
            · skip
              refine o_const (k := 1) hx hb dX5_same_77 (by decide) ?_
              refine lv_goto (tgt := 82) hx hb dX5_same_78 (by decide) ?_
              refine lv_istore (lv' := [(5, .int (nI 1)), (6, .int (nI 1)), (4, .int (nI (m_nt (v 1 0 / 2) j))), (3, .int (nI ((v 1 0) / 2))), (2, .int (nI (m_fd (v 1) fr (v 1 0 / 2) j))), (0, .ref (q 0)), (1, .int (nI fr))]) hx hb dX5_same_82 hl (by decide) rfl (fun ls hl => ?_)
              refine lv_iinc (v := nI 2) (lv' := [(6, .int (nI 2)), (5, .int (nI 1)), (4, .int (nI (m_nt (v 1 0 / 2) j))), (3, .int (nI ((v 1 0) / 2))), (2, .int (nI (m_fd (v 1) fr (v 1 0 / 2) j))), (0, .ref (q 0)), (1, .int (nI fr))]) hx hb dX5_same_84 hl (k := 1) rfl (by decide) (by decide) rfl (fun ls hl => ?_)
              refine lv_goto (tgt := 36) hx hb dX5_same_87 (by decide) ?_
              refine lv_iload hx hb dX5_same_36 (lv_at hl 0 rfl) ?_
              refine o_const (k := 5) hx hb dX5_same_38 (by decide) ?_
              refine o_icmp_ge (tgt := 90) hx hb dX5_same_39 (by decide) (Nat.le_of_ble_eq_true rfl) (Nat.le_of_ble_eq_true rfl) (fun c0 => absurd c0 (by decide)) (fun _ => ?_)
              refine lv_iload hx hb dX5_same_42 (lv_at hl 1 rfl) ?_
              refine o_if_eq (tgt := 90) hx hb dX5_same_44 (by decide) (Nat.le_of_ble_eq_true rfl) (fun c0 => absurd c0 (by decide)) (fun _ => ?_)
              refine lv_aload_n hx hb dX5_same_47 rfl (lv_at hl 5 rfl) ?_
              refine va_get (D := D) (ci := 5) (v := .ref (q 1)) (C := RX5) (T := TX5) (N := 10) hx hb hts inX5_same_X5 hown hK hP 0 rfl rfl 0 (by decide) (hts (.fieldLink RX5 7 "OddNoticeModel" "now" "[I") (List.mem_of_getElem? (i := 1) (by decide +kernel))) (fun _ h9 => h9) rfl dX5_same_48 ?_
              refine lv_iload_n hx hb dX5_same_51 rfl (lv_at hl 6 rfl) ?_
              refine lv_iload hx hb dX5_same_52 (lv_at hl 0 rfl) ?_
              refine o_iadd (a := fr) (b := 2) (k := (fr + 2)) hx hb dX5_same_54 rfl ?_
              refine o_iald (v := nI (v 1 (fr + 2))) hx hb hK hP 1 0 rfl rfl (by omega) (Nat.le_of_ble_eq_true rfl) rfl dX5_same_55 ?_
              have f_18 := hw (fr + 2)
              refine lv_aload_n hx hb dX5_same_56 rfl (lv_at hl 5 rfl) ?_
              refine va_get (D := D) (ci := 5) (v := .ref (q 1)) (C := RX5) (T := TX5) (N := 10) hx hb hts inX5_same_X5 hown hK hP 0 rfl rfl 0 (by decide) (hts (.fieldLink RX5 7 "OddNoticeModel" "now" "[I") (List.mem_of_getElem? (i := 1) (by decide +kernel))) (fun _ h9 => h9) rfl dX5_same_57 ?_
              refine o_bipush (k := 83) hx hb dX5_same_60 (by decide) ?_
              refine o_const (k := 5) hx hb dX5_same_62 (by decide) ?_
              refine lv_iload hx hb dX5_same_63 (lv_at hl 2 rfl) ?_
              refine o_bipush (k := 16) hx hb dX5_same_65 (by decide) ?_
              refine o_irem (a := (m_nt (v 1 0 / 2) j)) (b := 16) (k := ((m_nt (v 1 0 / 2) j) % 16)) hx hb dX5_same_67 (by omega) (by decide) (Nat.le_of_ble_eq_true rfl) rfl ?_
              refine o_imul (a := 5) (b := ((m_nt (v 1 0 / 2) j) % 16)) (k := (5 * ((m_nt (v 1 0 / 2) j) % 16))) hx hb dX5_same_68 rfl ?_
              refine o_iadd (a := 83) (b := (5 * ((m_nt (v 1 0 / 2) j) % 16))) (k := (83 + 5 * ((m_nt (v 1 0 / 2) j) % 16))) hx hb dX5_same_69 rfl ?_
              refine lv_iload hx hb dX5_same_70 (lv_at hl 0 rfl) ?_
              refine o_iadd (a := (83 + 5 * ((m_nt (v 1 0 / 2) j) % 16))) (b := 2) (k := (83 + 5 * ((m_nt (v 1 0 / 2) j) % 16) + 2)) hx hb dX5_same_72 rfl ?_
              refine o_iald (v := nI (v 1 (83 + 5 * ((m_nt (v 1 0 / 2) j) % 16) + 2))) hx hb hK hP 1 0 rfl rfl (by omega) (Nat.le_of_ble_eq_true rfl) rfl dX5_same_73 ?_
              have f_19 := hw (83 + 5 * ((m_nt (v 1 0 / 2) j) % 16) + 2)
              refine o_icmp_ne (tgt := 81) hx hb dX5_same_74 (by decide) (by omega) (by omega) (fun c_20 => ?_) (fun c_20 => ?_)
              · skip
                refine o_const (k := 0) hx hb dX5_same_81 (by decide) ?_
                refine lv_istore (lv' := [(5, .int (nI 0)), (6, .int (nI 2)), (4, .int (nI (m_nt (v 1 0 / 2) j))), (3, .int (nI ((v 1 0) / 2))), (2, .int (nI (m_fd (v 1) fr (v 1 0 / 2) j))), (0, .ref (q 0)), (1, .int (nI fr))]) hx hb dX5_same_82 hl (by decide) rfl (fun ls hl => ?_)
                refine lv_iinc (v := nI 3) (lv' := [(6, .int (nI 3)), (5, .int (nI 0)), (4, .int (nI (m_nt (v 1 0 / 2) j))), (3, .int (nI ((v 1 0) / 2))), (2, .int (nI (m_fd (v 1) fr (v 1 0 / 2) j))), (0, .ref (q 0)), (1, .int (nI fr))]) hx hb dX5_same_84 hl (k := 1) rfl (by decide) (by decide) rfl (fun ls hl => ?_)
                refine lv_goto (tgt := 36) hx hb dX5_same_87 (by decide) ?_
                refine lv_iload hx hb dX5_same_36 (lv_at hl 0 rfl) ?_
                refine o_const (k := 5) hx hb dX5_same_38 (by decide) ?_
                refine o_icmp_ge (tgt := 90) hx hb dX5_same_39 (by decide) (Nat.le_of_ble_eq_true rfl) (Nat.le_of_ble_eq_true rfl) (fun c0 => absurd c0 (by decide)) (fun _ => ?_)
                refine lv_iload hx hb dX5_same_42 (lv_at hl 1 rfl) ?_
                refine o_if_eq (tgt := 90) hx hb dX5_same_44 (by decide) (Nat.le_of_ble_eq_true rfl) (fun _ => ?_) (fun c0 => absurd c0 (by decide))
                refine lv_iload hx hb dX5_same_90 (lv_at hl 1 rfl) ?_
                refine o_if_eq (tgt := 100) hx hb dX5_same_92 (by decide) (Nat.le_of_ble_eq_true rfl) (fun _ => ?_) (fun c0 => absurd c0 (by decide))
                refine lv_iload_n hx hb dX5_same_100 rfl (lv_at hl 4 rfl) ?_
                refine lv_istore_n (lv' := [(2, .int (nI (m_fd (v 1) fr (v 1 0 / 2) j))), (6, .int (nI 3)), (5, .int (nI 0)), (4, .int (nI (m_nt (v 1 0 / 2) j))), (3, .int (nI ((v 1 0) / 2))), (0, .ref (q 0)), (1, .int (nI fr))]) hx hb dX5_same_101 rfl hl (by decide) rfl (fun ls hl => ?_)
                refine lv_iinc (v := nI ((m_nt (v 1 0 / 2) j) + 1)) (lv' := [(4, .int (nI ((m_nt (v 1 0 / 2) j) + 1))), (2, .int (nI (m_fd (v 1) fr (v 1 0 / 2) j))), (6, .int (nI 3)), (5, .int (nI 0)), (3, .int (nI ((v 1 0) / 2))), (0, .ref (q 0)), (1, .int (nI fr))]) hx hb dX5_same_102 hl (k := 3) rfl (o_inc1 _) (by decide) rfl (fun ls hl => ?_)
                refine lv_goto (tgt := 19) hx hb dX5_same_105 (by decide) ?_
                have q_21 : nI ((m_nt (v 1 0 / 2) j) + 1) = nI (m_nt (v 1 0 / 2) (j + 1)) := by exact m_nt_s _ _
                have hl := o_lvset hl 0 rfl (congrArg Value.int q_21)
                have q_22 : nI (m_fd (v 1) fr (v 1 0 / 2) j) = nI (m_fd (v 1) fr (v 1 0 / 2) (j + 1)) := by exact congrArg nI (Eq.symm (show m_fd (v 1) fr (v 1 0 / 2) (j + 1) = _ from if_neg (fun hz => by have hy := hz.2; unfold m_sm at hy; rw [if_pos c_10, if_pos c_15, if_neg c_20] at hy; omega)))
                have hl := o_lvset hl 1 rfl (congrArg Value.int q_22)
                exact ih_1  (j + 1) (by omega) (by omega) ls (lv_sub hl [0, 4, 1, 5, 6] rfl)
              · skip
                refine o_const (k := 1) hx hb dX5_same_77 (by decide) ?_
                refine lv_goto (tgt := 82) hx hb dX5_same_78 (by decide) ?_
                refine lv_istore (lv' := [(5, .int (nI 1)), (6, .int (nI 2)), (4, .int (nI (m_nt (v 1 0 / 2) j))), (3, .int (nI ((v 1 0) / 2))), (2, .int (nI (m_fd (v 1) fr (v 1 0 / 2) j))), (0, .ref (q 0)), (1, .int (nI fr))]) hx hb dX5_same_82 hl (by decide) rfl (fun ls hl => ?_)
                refine lv_iinc (v := nI 3) (lv' := [(6, .int (nI 3)), (5, .int (nI 1)), (4, .int (nI (m_nt (v 1 0 / 2) j))), (3, .int (nI ((v 1 0) / 2))), (2, .int (nI (m_fd (v 1) fr (v 1 0 / 2) j))), (0, .ref (q 0)), (1, .int (nI fr))]) hx hb dX5_same_84 hl (k := 1) rfl (by decide) (by decide) rfl (fun ls hl => ?_)
                refine lv_goto (tgt := 36) hx hb dX5_same_87 (by decide) ?_
                refine lv_iload hx hb dX5_same_36 (lv_at hl 0 rfl) ?_
                refine o_const (k := 5) hx hb dX5_same_38 (by decide) ?_
                refine o_icmp_ge (tgt := 90) hx hb dX5_same_39 (by decide) (Nat.le_of_ble_eq_true rfl) (Nat.le_of_ble_eq_true rfl) (fun c0 => absurd c0 (by decide)) (fun _ => ?_)
                refine lv_iload hx hb dX5_same_42 (lv_at hl 1 rfl) ?_
                refine o_if_eq (tgt := 90) hx hb dX5_same_44 (by decide) (Nat.le_of_ble_eq_true rfl) (fun c0 => absurd c0 (by decide)) (fun _ => ?_)
                refine lv_aload_n hx hb dX5_same_47 rfl (lv_at hl 5 rfl) ?_
                refine va_get (D := D) (ci := 5) (v := .ref (q 1)) (C := RX5) (T := TX5) (N := 10) hx hb hts inX5_same_X5 hown hK hP 0 rfl rfl 0 (by decide) (hts (.fieldLink RX5 7 "OddNoticeModel" "now" "[I") (List.mem_of_getElem? (i := 1) (by decide +kernel))) (fun _ h9 => h9) rfl dX5_same_48 ?_
                refine lv_iload_n hx hb dX5_same_51 rfl (lv_at hl 6 rfl) ?_
                refine lv_iload hx hb dX5_same_52 (lv_at hl 0 rfl) ?_
                refine o_iadd (a := fr) (b := 3) (k := (fr + 3)) hx hb dX5_same_54 rfl ?_
                refine o_iald (v := nI (v 1 (fr + 3))) hx hb hK hP 1 0 rfl rfl (by omega) (Nat.le_of_ble_eq_true rfl) rfl dX5_same_55 ?_
                have f_23 := hw (fr + 3)
                refine lv_aload_n hx hb dX5_same_56 rfl (lv_at hl 5 rfl) ?_
                refine va_get (D := D) (ci := 5) (v := .ref (q 1)) (C := RX5) (T := TX5) (N := 10) hx hb hts inX5_same_X5 hown hK hP 0 rfl rfl 0 (by decide) (hts (.fieldLink RX5 7 "OddNoticeModel" "now" "[I") (List.mem_of_getElem? (i := 1) (by decide +kernel))) (fun _ h9 => h9) rfl dX5_same_57 ?_
                refine o_bipush (k := 83) hx hb dX5_same_60 (by decide) ?_
                refine o_const (k := 5) hx hb dX5_same_62 (by decide) ?_
                refine lv_iload hx hb dX5_same_63 (lv_at hl 2 rfl) ?_
                refine o_bipush (k := 16) hx hb dX5_same_65 (by decide) ?_
                refine o_irem (a := (m_nt (v 1 0 / 2) j)) (b := 16) (k := ((m_nt (v 1 0 / 2) j) % 16)) hx hb dX5_same_67 (by omega) (by decide) (Nat.le_of_ble_eq_true rfl) rfl ?_
                refine o_imul (a := 5) (b := ((m_nt (v 1 0 / 2) j) % 16)) (k := (5 * ((m_nt (v 1 0 / 2) j) % 16))) hx hb dX5_same_68 rfl ?_
                refine o_iadd (a := 83) (b := (5 * ((m_nt (v 1 0 / 2) j) % 16))) (k := (83 + 5 * ((m_nt (v 1 0 / 2) j) % 16))) hx hb dX5_same_69 rfl ?_
                refine lv_iload hx hb dX5_same_70 (lv_at hl 0 rfl) ?_
                refine o_iadd (a := (83 + 5 * ((m_nt (v 1 0 / 2) j) % 16))) (b := 3) (k := (83 + 5 * ((m_nt (v 1 0 / 2) j) % 16) + 3)) hx hb dX5_same_72 rfl ?_
                refine o_iald (v := nI (v 1 (83 + 5 * ((m_nt (v 1 0 / 2) j) % 16) + 3))) hx hb hK hP 1 0 rfl rfl (by omega) (Nat.le_of_ble_eq_true rfl) rfl dX5_same_73 ?_
                have f_24 := hw (83 + 5 * ((m_nt (v 1 0 / 2) j) % 16) + 3)
                refine o_icmp_ne (tgt := 81) hx hb dX5_same_74 (by decide) (by omega) (by omega) (fun c_25 => ?_) (fun c_25 => ?_)
                · skip
                  refine o_const (k := 0) hx hb dX5_same_81 (by decide) ?_
                  refine lv_istore (lv' := [(5, .int (nI 0)), (6, .int (nI 3)), (4, .int (nI (m_nt (v 1 0 / 2) j))), (3, .int (nI ((v 1 0) / 2))), (2, .int (nI (m_fd (v 1) fr (v 1 0 / 2) j))), (0, .ref (q 0)), (1, .int (nI fr))]) hx hb dX5_same_82 hl (by decide) rfl (fun ls hl => ?_)
                  refine lv_iinc (v := nI 4) (lv' := [(6, .int (nI 4)), (5, .int (nI 0)), (4, .int (nI (m_nt (v 1 0 / 2) j))), (3, .int (nI ((v 1 0) / 2))), (2, .int (nI (m_fd (v 1) fr (v 1 0 / 2) j))), (0, .ref (q 0)), (1, .int (nI fr))]) hx hb dX5_same_84 hl (k := 1) rfl (by decide) (by decide) rfl (fun ls hl => ?_)
                  refine lv_goto (tgt := 36) hx hb dX5_same_87 (by decide) ?_
                  refine lv_iload hx hb dX5_same_36 (lv_at hl 0 rfl) ?_
                  refine o_const (k := 5) hx hb dX5_same_38 (by decide) ?_
                  refine o_icmp_ge (tgt := 90) hx hb dX5_same_39 (by decide) (Nat.le_of_ble_eq_true rfl) (Nat.le_of_ble_eq_true rfl) (fun c0 => absurd c0 (by decide)) (fun _ => ?_)
                  refine lv_iload hx hb dX5_same_42 (lv_at hl 1 rfl) ?_
                  refine o_if_eq (tgt := 90) hx hb dX5_same_44 (by decide) (Nat.le_of_ble_eq_true rfl) (fun _ => ?_) (fun c0 => absurd c0 (by decide))
                  refine lv_iload hx hb dX5_same_90 (lv_at hl 1 rfl) ?_
                  refine o_if_eq (tgt := 100) hx hb dX5_same_92 (by decide) (Nat.le_of_ble_eq_true rfl) (fun _ => ?_) (fun c0 => absurd c0 (by decide))
                  refine lv_iload_n hx hb dX5_same_100 rfl (lv_at hl 4 rfl) ?_
                  refine lv_istore_n (lv' := [(2, .int (nI (m_fd (v 1) fr (v 1 0 / 2) j))), (6, .int (nI 4)), (5, .int (nI 0)), (4, .int (nI (m_nt (v 1 0 / 2) j))), (3, .int (nI ((v 1 0) / 2))), (0, .ref (q 0)), (1, .int (nI fr))]) hx hb dX5_same_101 rfl hl (by decide) rfl (fun ls hl => ?_)
                  refine lv_iinc (v := nI ((m_nt (v 1 0 / 2) j) + 1)) (lv' := [(4, .int (nI ((m_nt (v 1 0 / 2) j) + 1))), (2, .int (nI (m_fd (v 1) fr (v 1 0 / 2) j))), (6, .int (nI 4)), (5, .int (nI 0)), (3, .int (nI ((v 1 0) / 2))), (0, .ref (q 0)), (1, .int (nI fr))]) hx hb dX5_same_102 hl (k := 3) rfl (o_inc1 _) (by decide) rfl (fun ls hl => ?_)
                  refine lv_goto (tgt := 19) hx hb dX5_same_105 (by decide) ?_
                  have q_26 : nI ((m_nt (v 1 0 / 2) j) + 1) = nI (m_nt (v 1 0 / 2) (j + 1)) := by exact m_nt_s _ _
                  have hl := o_lvset hl 0 rfl (congrArg Value.int q_26)
                  have q_27 : nI (m_fd (v 1) fr (v 1 0 / 2) j) = nI (m_fd (v 1) fr (v 1 0 / 2) (j + 1)) := by exact congrArg nI (Eq.symm (show m_fd (v 1) fr (v 1 0 / 2) (j + 1) = _ from if_neg (fun hz => by have hy := hz.2; unfold m_sm at hy; rw [if_pos c_10, if_pos c_15, if_pos c_20, if_neg c_25] at hy; omega)))
                  have hl := o_lvset hl 1 rfl (congrArg Value.int q_27)
                  exact ih_1  (j + 1) (by omega) (by omega) ls (lv_sub hl [0, 4, 1, 5, 6] rfl)
                · skip
                  refine o_const (k := 1) hx hb dX5_same_77 (by decide) ?_
                  refine lv_goto (tgt := 82) hx hb dX5_same_78 (by decide) ?_
                  refine lv_istore (lv' := [(5, .int (nI 1)), (6, .int (nI 3)), (4, .int (nI (m_nt (v 1 0 / 2) j))), (3, .int (nI ((v 1 0) / 2))), (2, .int (nI (m_fd (v 1) fr (v 1 0 / 2) j))), (0, .ref (q 0)), (1, .int (nI fr))]) hx hb dX5_same_82 hl (by decide) rfl (fun ls hl => ?_)
                  refine lv_iinc (v := nI 4) (lv' := [(6, .int (nI 4)), (5, .int (nI 1)), (4, .int (nI (m_nt (v 1 0 / 2) j))), (3, .int (nI ((v 1 0) / 2))), (2, .int (nI (m_fd (v 1) fr (v 1 0 / 2) j))), (0, .ref (q 0)), (1, .int (nI fr))]) hx hb dX5_same_84 hl (k := 1) rfl (by decide) (by decide) rfl (fun ls hl => ?_)
                  refine lv_goto (tgt := 36) hx hb dX5_same_87 (by decide) ?_
                  refine lv_iload hx hb dX5_same_36 (lv_at hl 0 rfl) ?_
                  refine o_const (k := 5) hx hb dX5_same_38 (by decide) ?_
                  refine o_icmp_ge (tgt := 90) hx hb dX5_same_39 (by decide) (Nat.le_of_ble_eq_true rfl) (Nat.le_of_ble_eq_true rfl) (fun c0 => absurd c0 (by decide)) (fun _ => ?_)
                  refine lv_iload hx hb dX5_same_42 (lv_at hl 1 rfl) ?_
                  refine o_if_eq (tgt := 90) hx hb dX5_same_44 (by decide) (Nat.le_of_ble_eq_true rfl) (fun c0 => absurd c0 (by decide)) (fun _ => ?_)
                  refine lv_aload_n hx hb dX5_same_47 rfl (lv_at hl 5 rfl) ?_
                  refine va_get (D := D) (ci := 5) (v := .ref (q 1)) (C := RX5) (T := TX5) (N := 10) hx hb hts inX5_same_X5 hown hK hP 0 rfl rfl 0 (by decide) (hts (.fieldLink RX5 7 "OddNoticeModel" "now" "[I") (List.mem_of_getElem? (i := 1) (by decide +kernel))) (fun _ h9 => h9) rfl dX5_same_48 ?_
                  refine lv_iload_n hx hb dX5_same_51 rfl (lv_at hl 6 rfl) ?_
                  refine lv_iload hx hb dX5_same_52 (lv_at hl 0 rfl) ?_
                  refine o_iadd (a := fr) (b := 4) (k := (fr + 4)) hx hb dX5_same_54 rfl ?_
                  refine o_iald (v := nI (v 1 (fr + 4))) hx hb hK hP 1 0 rfl rfl (by omega) (Nat.le_of_ble_eq_true rfl) rfl dX5_same_55 ?_
                  have f_28 := hw (fr + 4)
                  refine lv_aload_n hx hb dX5_same_56 rfl (lv_at hl 5 rfl) ?_
                  refine va_get (D := D) (ci := 5) (v := .ref (q 1)) (C := RX5) (T := TX5) (N := 10) hx hb hts inX5_same_X5 hown hK hP 0 rfl rfl 0 (by decide) (hts (.fieldLink RX5 7 "OddNoticeModel" "now" "[I") (List.mem_of_getElem? (i := 1) (by decide +kernel))) (fun _ h9 => h9) rfl dX5_same_57 ?_
                  refine o_bipush (k := 83) hx hb dX5_same_60 (by decide) ?_
                  refine o_const (k := 5) hx hb dX5_same_62 (by decide) ?_
                  refine lv_iload hx hb dX5_same_63 (lv_at hl 2 rfl) ?_
                  refine o_bipush (k := 16) hx hb dX5_same_65 (by decide) ?_
                  refine o_irem (a := (m_nt (v 1 0 / 2) j)) (b := 16) (k := ((m_nt (v 1 0 / 2) j) % 16)) hx hb dX5_same_67 (by omega) (by decide) (Nat.le_of_ble_eq_true rfl) rfl ?_
                  refine o_imul (a := 5) (b := ((m_nt (v 1 0 / 2) j) % 16)) (k := (5 * ((m_nt (v 1 0 / 2) j) % 16))) hx hb dX5_same_68 rfl ?_
                  refine o_iadd (a := 83) (b := (5 * ((m_nt (v 1 0 / 2) j) % 16))) (k := (83 + 5 * ((m_nt (v 1 0 / 2) j) % 16))) hx hb dX5_same_69 rfl ?_
                  refine lv_iload hx hb dX5_same_70 (lv_at hl 0 rfl) ?_
                  refine o_iadd (a := (83 + 5 * ((m_nt (v 1 0 / 2) j) % 16))) (b := 4) (k := (83 + 5 * ((m_nt (v 1 0 / 2) j) % 16) + 4)) hx hb dX5_same_72 rfl ?_
                  refine o_iald (v := nI (v 1 (83 + 5 * ((m_nt (v 1 0 / 2) j) % 16) + 4))) hx hb hK hP 1 0 rfl rfl (by omega) (Nat.le_of_ble_eq_true rfl) rfl dX5_same_73 ?_
                  have f_29 := hw (83 + 5 * ((m_nt (v 1 0 / 2) j) % 16) + 4)
                  refine o_icmp_ne (tgt := 81) hx hb dX5_same_74 (by decide) (by omega) (by omega) (fun c_30 => ?_) (fun c_30 => ?_)
                  · skip
                    refine o_const (k := 0) hx hb dX5_same_81 (by decide) ?_
                    refine lv_istore (lv' := [(5, .int (nI 0)), (6, .int (nI 4)), (4, .int (nI (m_nt (v 1 0 / 2) j))), (3, .int (nI ((v 1 0) / 2))), (2, .int (nI (m_fd (v 1) fr (v 1 0 / 2) j))), (0, .ref (q 0)), (1, .int (nI fr))]) hx hb dX5_same_82 hl (by decide) rfl (fun ls hl => ?_)
                    refine lv_iinc (v := nI 5) (lv' := [(6, .int (nI 5)), (5, .int (nI 0)), (4, .int (nI (m_nt (v 1 0 / 2) j))), (3, .int (nI ((v 1 0) / 2))), (2, .int (nI (m_fd (v 1) fr (v 1 0 / 2) j))), (0, .ref (q 0)), (1, .int (nI fr))]) hx hb dX5_same_84 hl (k := 1) rfl (by decide) (by decide) rfl (fun ls hl => ?_)
                    refine lv_goto (tgt := 36) hx hb dX5_same_87 (by decide) ?_
                    refine lv_iload hx hb dX5_same_36 (lv_at hl 0 rfl) ?_
                    refine o_const (k := 5) hx hb dX5_same_38 (by decide) ?_
                    refine o_icmp_ge (tgt := 90) hx hb dX5_same_39 (by decide) (Nat.le_of_ble_eq_true rfl) (Nat.le_of_ble_eq_true rfl) (fun _ => ?_) (fun c0 => absurd c0 (by decide))
                    refine lv_iload hx hb dX5_same_90 (lv_at hl 1 rfl) ?_
                    refine o_if_eq (tgt := 100) hx hb dX5_same_92 (by decide) (Nat.le_of_ble_eq_true rfl) (fun _ => ?_) (fun c0 => absurd c0 (by decide))
                    refine lv_iload_n hx hb dX5_same_100 rfl (lv_at hl 4 rfl) ?_
                    refine lv_istore_n (lv' := [(2, .int (nI (m_fd (v 1) fr (v 1 0 / 2) j))), (6, .int (nI 5)), (5, .int (nI 0)), (4, .int (nI (m_nt (v 1 0 / 2) j))), (3, .int (nI ((v 1 0) / 2))), (0, .ref (q 0)), (1, .int (nI fr))]) hx hb dX5_same_101 rfl hl (by decide) rfl (fun ls hl => ?_)
                    refine lv_iinc (v := nI ((m_nt (v 1 0 / 2) j) + 1)) (lv' := [(4, .int (nI ((m_nt (v 1 0 / 2) j) + 1))), (2, .int (nI (m_fd (v 1) fr (v 1 0 / 2) j))), (6, .int (nI 5)), (5, .int (nI 0)), (3, .int (nI ((v 1 0) / 2))), (0, .ref (q 0)), (1, .int (nI fr))]) hx hb dX5_same_102 hl (k := 3) rfl (o_inc1 _) (by decide) rfl (fun ls hl => ?_)
                    refine lv_goto (tgt := 19) hx hb dX5_same_105 (by decide) ?_
                    have q_31 : nI ((m_nt (v 1 0 / 2) j) + 1) = nI (m_nt (v 1 0 / 2) (j + 1)) := by exact m_nt_s _ _
                    have hl := o_lvset hl 0 rfl (congrArg Value.int q_31)
                    have q_32 : nI (m_fd (v 1) fr (v 1 0 / 2) j) = nI (m_fd (v 1) fr (v 1 0 / 2) (j + 1)) := by exact congrArg nI (Eq.symm (show m_fd (v 1) fr (v 1 0 / 2) (j + 1) = _ from if_neg (fun hz => by have hy := hz.2; unfold m_sm at hy; rw [if_pos c_10, if_pos c_15, if_pos c_20, if_pos c_25, if_neg c_30] at hy; omega)))
                    have hl := o_lvset hl 1 rfl (congrArg Value.int q_32)
                    exact ih_1  (j + 1) (by omega) (by omega) ls (lv_sub hl [0, 4, 1, 5, 6] rfl)
                  · skip
                    refine o_const (k := 1) hx hb dX5_same_77 (by decide) ?_
                    refine lv_goto (tgt := 82) hx hb dX5_same_78 (by decide) ?_
                    refine lv_istore (lv' := [(5, .int (nI 1)), (6, .int (nI 4)), (4, .int (nI (m_nt (v 1 0 / 2) j))), (3, .int (nI ((v 1 0) / 2))), (2, .int (nI (m_fd (v 1) fr (v 1 0 / 2) j))), (0, .ref (q 0)), (1, .int (nI fr))]) hx hb dX5_same_82 hl (by decide) rfl (fun ls hl => ?_)
                    refine lv_iinc (v := nI 5) (lv' := [(6, .int (nI 5)), (5, .int (nI 1)), (4, .int (nI (m_nt (v 1 0 / 2) j))), (3, .int (nI ((v 1 0) / 2))), (2, .int (nI (m_fd (v 1) fr (v 1 0 / 2) j))), (0, .ref (q 0)), (1, .int (nI fr))]) hx hb dX5_same_84 hl (k := 1) rfl (by decide) (by decide) rfl (fun ls hl => ?_)
                    refine lv_goto (tgt := 36) hx hb dX5_same_87 (by decide) ?_
                    refine lv_iload hx hb dX5_same_36 (lv_at hl 0 rfl) ?_
                    refine o_const (k := 5) hx hb dX5_same_38 (by decide) ?_
                    refine o_icmp_ge (tgt := 90) hx hb dX5_same_39 (by decide) (Nat.le_of_ble_eq_true rfl) (Nat.le_of_ble_eq_true rfl) (fun _ => ?_) (fun c0 => absurd c0 (by decide))
                    refine lv_iload hx hb dX5_same_90 (lv_at hl 1 rfl) ?_
                    refine o_if_eq (tgt := 100) hx hb dX5_same_92 (by decide) (Nat.le_of_ble_eq_true rfl) (fun c0 => absurd c0 (by decide)) (fun _ => ?_)
                    refine lv_iload hx hb dX5_same_95 (lv_at hl 2 rfl) ?_
                    refine lv_goto (tgt := 101) hx hb dX5_same_97 (by decide) ?_
                    refine lv_istore_n (lv' := [(2, .int (nI (m_nt (v 1 0 / 2) j))), (6, .int (nI 5)), (5, .int (nI 1)), (4, .int (nI (m_nt (v 1 0 / 2) j))), (3, .int (nI ((v 1 0) / 2))), (0, .ref (q 0)), (1, .int (nI fr))]) hx hb dX5_same_101 rfl hl (by decide) rfl (fun ls hl => ?_)
                    refine lv_iinc (v := nI ((m_nt (v 1 0 / 2) j) + 1)) (lv' := [(4, .int (nI ((m_nt (v 1 0 / 2) j) + 1))), (2, .int (nI (m_nt (v 1 0 / 2) j))), (6, .int (nI 5)), (5, .int (nI 1)), (3, .int (nI ((v 1 0) / 2))), (0, .ref (q 0)), (1, .int (nI fr))]) hx hb dX5_same_102 hl (k := 3) rfl (o_inc1 _) (by decide) rfl (fun ls hl => ?_)
                    refine lv_goto (tgt := 19) hx hb dX5_same_105 (by decide) ?_
                    have q_33 : nI ((m_nt (v 1 0 / 2) j) + 1) = nI (m_nt (v 1 0 / 2) (j + 1)) := by exact m_nt_s _ _
                    have hl := o_lvset hl 0 rfl (congrArg Value.int q_33)
                    have q_34 : nI (m_nt (v 1 0 / 2) j) = nI (m_fd (v 1) fr (v 1 0 / 2) (j + 1)) := by exact congrArg nI (Eq.symm (show m_fd (v 1) fr (v 1 0 / 2) (j + 1) = _ from if_pos ⟨by omega, by unfold m_sm; rw [if_pos c_10, if_pos c_15, if_pos c_20, if_pos c_25, if_pos c_30]⟩))
                    have hl := o_lvset hl 1 rfl (congrArg Value.int q_34)
                    exact ih_1  (j + 1) (by omega) (by omega) ls (lv_sub hl [0, 4, 1, 5, 6] rfl)
  have q_35 : nI 4294967295 = nI (m_fd (v 1) fr (v 1 0 / 2) 0) := by rfl
  have hl := o_lvset hl 2 rfl (congrArg Value.int q_35)
  exact lp_1 _ 0 (by omega) (Nat.lt_succ_self _) ls (lv_sub hl [0, 1, 2, 3, 4] rfl)
theorem inX5_looks_X5 : ∀ w ∈ wsX50, w ∈ wsX5_looks := by decide +kernel
set_option maxHeartbeats 4000000 in
set_option maxRecDepth 100000 in
theorem k_X5_looks (l : Launch) (D : va_G) (cI cR cS cL : ClassId) (sz : Nat) (q : Nat → Nat) (v : Nat → Nat → Nat) (r : Nat) (hr : r < 4) (hw : ∀ k, v 1 k < 2 ^ 32) (hn : v 1 0 < 2 ^ 30) (h5 : v 1 (15 + 17 * r + 5) < 2 ^ 31) (h2 : v 1 (15 + 17 * r + 2) ≤ 5) : Met l yX5_looks wsX5_looks ({ frames := 3, cells := 0, slots := 0, locals := 69 }) (va_Pc [.ref (q 0), .int (nI r)] (o_B D (o_T cI cR cS cL) (wM q cI v) sz)) (va_Qi (fun rz (_ : Unit) => rz = nI (m_looksr (v 1) r)) (fun (_ : Unit) t => va_P D vwCl (wM q cI (va_up v 1 (m_looks (v 1) r))) t.heap) (va_A (wM q cI v) sz)) 0 0 (va_A (wM q cI v) sz) := by
  refine Met.ofW (cc := cX5_looks) (maxL := 5) (ret := (some .int)) (by decide) rfl ?_
  intro p e s m args below meth cd s₁ B hml hv
  obtain ⟨rfl, hsz, hP, hK, hD0, hN⟩ := hv
  have hx := B.exec
  have hb := B.bytes
  have hrt := B.returns
  have hts := atoms_spec (ws := wsX5_looks) B.pre
  have hown : s.vm.findClass RX5 = some m.cls := findClass_of_methodNamed B.named
  have hlocks := B.notSynchronized
  subst hsz
  have hD := hD0.self (sz := s.heap.size)
  generalize hAe : va_A (wM q cI v) s.heap.size = A at hD ⊢
  have hA : ∀ q : Nat, s.heap.size ≤ q → A q := fun q h => by rw [← hAe]; exact Or.inr h
  have hS : va_S A s.heap s.heap [] := va_S.rf
  have hl := lv_entry ([.ref (q 0), .int (nI r)]) (n := 5) (Nat.le_of_ble_eq_true rfl)
  rw [lg_entry_eq]
  generalize (lg_sl ([.ref (q 0), .int (nI r)]) ++ List.replicate (5 - (lg_sl ([.ref (q 0), .int (nI r)])).length) Slot.unset).toArray = ls at hl ⊢
  have hl : lv_has ls 5 [(0, .ref (q 0)), (1, .int (nI r))] := hl
  refine o_bipush (k := 15) hx hb dX5_looks_0 (by decide) ?_
  refine o_bipush (k := 17) hx hb dX5_looks_2 (by decide) ?_
  refine lv_iload_n hx hb dX5_looks_4 rfl (lv_at hl 1 rfl) ?_
  refine o_imul (a := 17) (b := r) (k := (17 * r)) hx hb dX5_looks_5 rfl ?_
  refine o_iadd (a := 15) (b := (17 * r)) (k := (15 + 17 * r)) hx hb dX5_looks_6 rfl ?_
  refine lv_istore_n (lv' := [(2, .int (nI (15 + 17 * r))), (0, .ref (q 0)), (1, .int (nI r))]) hx hb dX5_looks_7 rfl hl (by decide) rfl (fun ls hl => ?_)
  refine lv_aload_n hx hb dX5_looks_8 rfl (lv_at hl 1 rfl) ?_
  refine va_get (D := D) (ci := 5) (v := .ref (q 1)) (C := RX5) (T := TX5) (N := 10) hx hb hts inX5_looks_X5 hown hK hP 0 rfl rfl 0 (by decide) (hts (.fieldLink RX5 7 "OddNoticeModel" "now" "[I") (List.mem_of_getElem? (i := 1) (by decide +kernel))) (fun _ h9 => h9) rfl dX5_looks_9 ?_
  refine lv_iload_n hx hb dX5_looks_12 rfl (lv_at hl 0 rfl) ?_
  refine o_const (k := 2) hx hb dX5_looks_13 (by decide) ?_
  refine o_iadd (a := (15 + 17 * r)) (b := 2) (k := (15 + 17 * r + 2)) hx hb dX5_looks_14 rfl ?_
  refine o_iald (v := nI (v 1 (15 + 17 * r + 2))) hx hb hK hP 1 0 rfl rfl (by omega) (Nat.le_of_ble_eq_true rfl) rfl dX5_looks_15 ?_
  have f_1 := hw (15 + 17 * r + 2)
  refine lv_istore_n (lv' := [(3, .int (nI (v 1 (15 + 17 * r + 2)))), (2, .int (nI (15 + 17 * r))), (0, .ref (q 0)), (1, .int (nI r))]) hx hb dX5_looks_16 rfl hl (by decide) rfl (fun ls hl => ?_)
  refine lv_iload_n hx hb dX5_looks_17 rfl (lv_at hl 0 rfl) ?_
  refine o_const (k := 5) hx hb dX5_looks_18 (by decide) ?_
  refine o_icmp_ge (tgt := 64) hx hb dX5_looks_19 (by decide) (by omega) (Nat.le_of_ble_eq_true rfl) (fun c_2 => ?_) (fun c_2 => ?_)
  · skip
    refine lv_aload_n hx hb dX5_looks_64 rfl (lv_at hl 2 rfl) ?_
    refine va_get (D := D) (ci := 5) (v := .ref (q 1)) (C := RX5) (T := TX5) (N := 10) hx hb hts inX5_looks_X5 hown hK hP 0 rfl rfl 0 (by decide) (hts (.fieldLink RX5 7 "OddNoticeModel" "now" "[I") (List.mem_of_getElem? (i := 1) (by decide +kernel))) (fun _ h9 => h9) rfl dX5_looks_65 ?_
    refine lv_iload_n hx hb dX5_looks_68 rfl (lv_at hl 1 rfl) ?_
    refine o_iald (v := nI (v 1 (15 + 17 * r))) hx hb hK hP 1 0 rfl rfl (by omega) (Nat.le_of_ble_eq_true rfl) rfl dX5_looks_69 ?_
    have f_3 := hw (15 + 17 * r)
    refine o_const (k := 1) hx hb dX5_looks_70 (by decide) ?_
    refine o_icmp_ne (tgt := 99) hx hb dX5_looks_71 (by decide) (by omega) (Nat.le_of_ble_eq_true rfl) (fun c_4 => ?_) (fun c_4 => ?_)
    · skip
      refine o_const (k := 0) hx hb dX5_looks_99 (by decide) ?_
      refine lv_istore (lv' := [(4, .int (nI 0)), (3, .int (nI (v 1 (15 + 17 * r + 2)))), (2, .int (nI (15 + 17 * r))), (0, .ref (q 0)), (1, .int (nI r))]) hx hb dX5_looks_100 hl (by decide) rfl (fun ls hl => ?_)
      refine lv_iload hx hb dX5_looks_102 (lv_at hl 0 rfl) ?_
      refine o_const (k := 5) hx hb dX5_looks_104 (by decide) ?_
      refine o_icmp_ge (tgt := 138) hx hb dX5_looks_105 (by decide) (Nat.le_of_ble_eq_true rfl) (Nat.le_of_ble_eq_true rfl) (fun c0 => absurd c0 (by decide)) (fun _ => ?_)
      refine lv_aload_n hx hb dX5_looks_108 rfl (lv_at hl 3 rfl) ?_
      refine va_get (D := D) (ci := 5) (v := .ref (q 1)) (C := RX5) (T := TX5) (N := 10) hx hb hts inX5_looks_X5 hown hK hP 0 rfl rfl 0 (by decide) (hts (.fieldLink RX5 7 "OddNoticeModel" "now" "[I") (List.mem_of_getElem? (i := 1) (by decide +kernel))) (fun _ h9 => h9) rfl dX5_looks_109 ?_
      refine lv_iload_n hx hb dX5_looks_112 rfl (lv_at hl 2 rfl) ?_
      refine o_bipush (k := 12) hx hb dX5_looks_113 (by decide) ?_
      refine o_iadd (a := (15 + 17 * r)) (b := 12) (k := (15 + 17 * r + 12)) hx hb dX5_looks_115 rfl ?_
      refine lv_iload hx hb dX5_looks_116 (lv_at hl 0 rfl) ?_
      refine o_iadd (a := (15 + 17 * r + 12)) (b := 0) (k := (15 + 17 * r + 12)) hx hb dX5_looks_118 rfl ?_
      refine lv_aload_n hx hb dX5_looks_119 rfl (lv_at hl 3 rfl) ?_
      refine va_get (D := D) (ci := 5) (v := .ref (q 1)) (C := RX5) (T := TX5) (N := 10) hx hb hts inX5_looks_X5 hown hK hP 0 rfl rfl 0 (by decide) (hts (.fieldLink RX5 7 "OddNoticeModel" "now" "[I") (List.mem_of_getElem? (i := 1) (by decide +kernel))) (fun _ h9 => h9) rfl dX5_looks_120 ?_
      refine lv_iload_n hx hb dX5_looks_123 rfl (lv_at hl 2 rfl) ?_
      refine o_bipush (k := 7) hx hb dX5_looks_124 (by decide) ?_
      refine o_iadd (a := (15 + 17 * r)) (b := 7) (k := (15 + 17 * r + 7)) hx hb dX5_looks_126 rfl ?_
      refine lv_iload hx hb dX5_looks_127 (lv_at hl 0 rfl) ?_
      refine o_iadd (a := (15 + 17 * r + 7)) (b := 0) (k := (15 + 17 * r + 7)) hx hb dX5_looks_129 rfl ?_
      refine o_iald (v := nI (v 1 (15 + 17 * r + 7))) hx hb hK hP 1 0 rfl rfl (by omega) (Nat.le_of_ble_eq_true rfl) rfl dX5_looks_130 ?_
      have f_5 := hw (15 + 17 * r + 7)
      refine o_iast (g := (v 1)) hx hb hK hP hD hS 1 0 rfl rfl (by omega) (Nat.le_of_ble_eq_true rfl) dX5_looks_131 (fun H locs hP hD hS => ?_)
      have hP : va_P D vwCl (wM q cI (va_up v 1 (va_up (v 1) (15 + 17 * r + 12) (v 1 (15 + 17 * r + 7))))) H := hP
      have hD : va_D A (wM q cI (va_up v 1 (va_up (v 1) (15 + 17 * r + 12) (v 1 (15 + 17 * r + 7))))) := hD
      refine lv_iinc (v := nI 1) (lv' := [(4, .int (nI 1)), (3, .int (nI (v 1 (15 + 17 * r + 2)))), (2, .int (nI (15 + 17 * r))), (0, .ref (q 0)), (1, .int (nI r))]) hx hb dX5_looks_132 hl (k := 0) rfl (by decide) (by decide) rfl (fun ls hl => ?_)
      refine lv_goto (tgt := 102) hx hb dX5_looks_135 (by decide) ?_
      refine lv_iload hx hb dX5_looks_102 (lv_at hl 0 rfl) ?_
      refine o_const (k := 5) hx hb dX5_looks_104 (by decide) ?_
      refine o_icmp_ge (tgt := 138) hx hb dX5_looks_105 (by decide) (Nat.le_of_ble_eq_true rfl) (Nat.le_of_ble_eq_true rfl) (fun c0 => absurd c0 (by decide)) (fun _ => ?_)
      refine lv_aload_n hx hb dX5_looks_108 rfl (lv_at hl 3 rfl) ?_
      refine va_get (D := D) (ci := 5) (v := .ref (q 1)) (C := RX5) (T := TX5) (N := 10) hx hb hts inX5_looks_X5 hown hK hP 0 rfl rfl 0 (by decide) (hts (.fieldLink RX5 7 "OddNoticeModel" "now" "[I") (List.mem_of_getElem? (i := 1) (by decide +kernel))) (fun _ h9 => h9) rfl dX5_looks_109 ?_
      refine lv_iload_n hx hb dX5_looks_112 rfl (lv_at hl 2 rfl) ?_
      refine o_bipush (k := 12) hx hb dX5_looks_113 (by decide) ?_
      refine o_iadd (a := (15 + 17 * r)) (b := 12) (k := (15 + 17 * r + 12)) hx hb dX5_looks_115 rfl ?_
      refine lv_iload hx hb dX5_looks_116 (lv_at hl 0 rfl) ?_
      refine o_iadd (a := (15 + 17 * r + 12)) (b := 1) (k := (15 + 17 * r + 13)) hx hb dX5_looks_118 rfl ?_
      refine lv_aload_n hx hb dX5_looks_119 rfl (lv_at hl 3 rfl) ?_
      refine va_get (D := D) (ci := 5) (v := .ref (q 1)) (C := RX5) (T := TX5) (N := 10) hx hb hts inX5_looks_X5 hown hK hP 0 rfl rfl 0 (by decide) (hts (.fieldLink RX5 7 "OddNoticeModel" "now" "[I") (List.mem_of_getElem? (i := 1) (by decide +kernel))) (fun _ h9 => h9) rfl dX5_looks_120 ?_
      refine lv_iload_n hx hb dX5_looks_123 rfl (lv_at hl 2 rfl) ?_
      refine o_bipush (k := 7) hx hb dX5_looks_124 (by decide) ?_
      refine o_iadd (a := (15 + 17 * r)) (b := 7) (k := (15 + 17 * r + 7)) hx hb dX5_looks_126 rfl ?_
      refine lv_iload hx hb dX5_looks_127 (lv_at hl 0 rfl) ?_
      refine o_iadd (a := (15 + 17 * r + 7)) (b := 1) (k := (15 + 17 * r + 8)) hx hb dX5_looks_129 rfl ?_
      refine o_iald (v := nI (v 1 (15 + 17 * r + 8))) hx hb hK hP 1 0 rfl rfl (by omega) (Nat.le_of_ble_eq_true rfl) (congrArg nI (show (va_up (v 1) (15 + 17 * r + 12) (v 1 (15 + 17 * r + 7))) (15 + 17 * r + 8) = (v 1 (15 + 17 * r + 8)) from (o_un (by omega)))) dX5_looks_130 ?_
      have f_6 := hw (15 + 17 * r + 8)
      refine o_iast (g := (va_up (v 1) (15 + 17 * r + 12) (v 1 (15 + 17 * r + 7)))) hx hb hK hP hD hS 1 0 rfl rfl (by omega) (Nat.le_of_ble_eq_true rfl) dX5_looks_131 (fun H locs hP hD hS => ?_)
      have hP : va_P D vwCl (wM q cI (va_up v 1 (va_up (va_up (v 1) (15 + 17 * r + 12) (v 1 (15 + 17 * r + 7))) (15 + 17 * r + 13) (v 1 (15 + 17 * r + 8))))) H := hP
      have hD : va_D A (wM q cI (va_up v 1 (va_up (va_up (v 1) (15 + 17 * r + 12) (v 1 (15 + 17 * r + 7))) (15 + 17 * r + 13) (v 1 (15 + 17 * r + 8))))) := hD
      refine lv_iinc (v := nI 2) (lv' := [(4, .int (nI 2)), (3, .int (nI (v 1 (15 + 17 * r + 2)))), (2, .int (nI (15 + 17 * r))), (0, .ref (q 0)), (1, .int (nI r))]) hx hb dX5_looks_132 hl (k := 0) rfl (by decide) (by decide) rfl (fun ls hl => ?_)
      refine lv_goto (tgt := 102) hx hb dX5_looks_135 (by decide) ?_
      refine lv_iload hx hb dX5_looks_102 (lv_at hl 0 rfl) ?_
      refine o_const (k := 5) hx hb dX5_looks_104 (by decide) ?_
      refine o_icmp_ge (tgt := 138) hx hb dX5_looks_105 (by decide) (Nat.le_of_ble_eq_true rfl) (Nat.le_of_ble_eq_true rfl) (fun c0 => absurd c0 (by decide)) (fun _ => ?_)
      refine lv_aload_n hx hb dX5_looks_108 rfl (lv_at hl 3 rfl) ?_
      refine va_get (D := D) (ci := 5) (v := .ref (q 1)) (C := RX5) (T := TX5) (N := 10) hx hb hts inX5_looks_X5 hown hK hP 0 rfl rfl 0 (by decide) (hts (.fieldLink RX5 7 "OddNoticeModel" "now" "[I") (List.mem_of_getElem? (i := 1) (by decide +kernel))) (fun _ h9 => h9) rfl dX5_looks_109 ?_
      refine lv_iload_n hx hb dX5_looks_112 rfl (lv_at hl 2 rfl) ?_
      refine o_bipush (k := 12) hx hb dX5_looks_113 (by decide) ?_
      refine o_iadd (a := (15 + 17 * r)) (b := 12) (k := (15 + 17 * r + 12)) hx hb dX5_looks_115 rfl ?_
      refine lv_iload hx hb dX5_looks_116 (lv_at hl 0 rfl) ?_
      refine o_iadd (a := (15 + 17 * r + 12)) (b := 2) (k := (15 + 17 * r + 14)) hx hb dX5_looks_118 rfl ?_
      refine lv_aload_n hx hb dX5_looks_119 rfl (lv_at hl 3 rfl) ?_
      refine va_get (D := D) (ci := 5) (v := .ref (q 1)) (C := RX5) (T := TX5) (N := 10) hx hb hts inX5_looks_X5 hown hK hP 0 rfl rfl 0 (by decide) (hts (.fieldLink RX5 7 "OddNoticeModel" "now" "[I") (List.mem_of_getElem? (i := 1) (by decide +kernel))) (fun _ h9 => h9) rfl dX5_looks_120 ?_
      refine lv_iload_n hx hb dX5_looks_123 rfl (lv_at hl 2 rfl) ?_
      refine o_bipush (k := 7) hx hb dX5_looks_124 (by decide) ?_
      refine o_iadd (a := (15 + 17 * r)) (b := 7) (k := (15 + 17 * r + 7)) hx hb dX5_looks_126 rfl ?_
      refine lv_iload hx hb dX5_looks_127 (lv_at hl 0 rfl) ?_
      refine o_iadd (a := (15 + 17 * r + 7)) (b := 2) (k := (15 + 17 * r + 9)) hx hb dX5_looks_129 rfl ?_
      refine o_iald (v := nI (v 1 (15 + 17 * r + 9))) hx hb hK hP 1 0 rfl rfl (by omega) (Nat.le_of_ble_eq_true rfl) (congrArg nI (show (va_up (va_up (v 1) (15 + 17 * r + 12) (v 1 (15 + 17 * r + 7))) (15 + 17 * r + 13) (v 1 (15 + 17 * r + 8))) (15 + 17 * r + 9) = (v 1 (15 + 17 * r + 9)) from (Eq.trans (o_un (by omega)) (o_un (by omega))))) dX5_looks_130 ?_
      have f_7 := hw (15 + 17 * r + 9)
      refine o_iast (g := (va_up (va_up (v 1) (15 + 17 * r + 12) (v 1 (15 + 17 * r + 7))) (15 + 17 * r + 13) (v 1 (15 + 17 * r + 8)))) hx hb hK hP hD hS 1 0 rfl rfl (by omega) (Nat.le_of_ble_eq_true rfl) dX5_looks_131 (fun H locs hP hD hS => ?_)
      have hP : va_P D vwCl (wM q cI (va_up v 1 (va_up (va_up (va_up (v 1) (15 + 17 * r + 12) (v 1 (15 + 17 * r + 7))) (15 + 17 * r + 13) (v 1 (15 + 17 * r + 8))) (15 + 17 * r + 14) (v 1 (15 + 17 * r + 9))))) H := hP
      have hD : va_D A (wM q cI (va_up v 1 (va_up (va_up (va_up (v 1) (15 + 17 * r + 12) (v 1 (15 + 17 * r + 7))) (15 + 17 * r + 13) (v 1 (15 + 17 * r + 8))) (15 + 17 * r + 14) (v 1 (15 + 17 * r + 9))))) := hD
      refine lv_iinc (v := nI 3) (lv' := [(4, .int (nI 3)), (3, .int (nI (v 1 (15 + 17 * r + 2)))), (2, .int (nI (15 + 17 * r))), (0, .ref (q 0)), (1, .int (nI r))]) hx hb dX5_looks_132 hl (k := 0) rfl (by decide) (by decide) rfl (fun ls hl => ?_)
      refine lv_goto (tgt := 102) hx hb dX5_looks_135 (by decide) ?_
      refine lv_iload hx hb dX5_looks_102 (lv_at hl 0 rfl) ?_
      refine o_const (k := 5) hx hb dX5_looks_104 (by decide) ?_
      refine o_icmp_ge (tgt := 138) hx hb dX5_looks_105 (by decide) (Nat.le_of_ble_eq_true rfl) (Nat.le_of_ble_eq_true rfl) (fun c0 => absurd c0 (by decide)) (fun _ => ?_)
      refine lv_aload_n hx hb dX5_looks_108 rfl (lv_at hl 3 rfl) ?_
      refine va_get (D := D) (ci := 5) (v := .ref (q 1)) (C := RX5) (T := TX5) (N := 10) hx hb hts inX5_looks_X5 hown hK hP 0 rfl rfl 0 (by decide) (hts (.fieldLink RX5 7 "OddNoticeModel" "now" "[I") (List.mem_of_getElem? (i := 1) (by decide +kernel))) (fun _ h9 => h9) rfl dX5_looks_109 ?_
      refine lv_iload_n hx hb dX5_looks_112 rfl (lv_at hl 2 rfl) ?_
      refine o_bipush (k := 12) hx hb dX5_looks_113 (by decide) ?_
      refine o_iadd (a := (15 + 17 * r)) (b := 12) (k := (15 + 17 * r + 12)) hx hb dX5_looks_115 rfl ?_
      refine lv_iload hx hb dX5_looks_116 (lv_at hl 0 rfl) ?_
      refine o_iadd (a := (15 + 17 * r + 12)) (b := 3) (k := (15 + 17 * r + 15)) hx hb dX5_looks_118 rfl ?_
      refine lv_aload_n hx hb dX5_looks_119 rfl (lv_at hl 3 rfl) ?_
      refine va_get (D := D) (ci := 5) (v := .ref (q 1)) (C := RX5) (T := TX5) (N := 10) hx hb hts inX5_looks_X5 hown hK hP 0 rfl rfl 0 (by decide) (hts (.fieldLink RX5 7 "OddNoticeModel" "now" "[I") (List.mem_of_getElem? (i := 1) (by decide +kernel))) (fun _ h9 => h9) rfl dX5_looks_120 ?_
      refine lv_iload_n hx hb dX5_looks_123 rfl (lv_at hl 2 rfl) ?_
      refine o_bipush (k := 7) hx hb dX5_looks_124 (by decide) ?_
      refine o_iadd (a := (15 + 17 * r)) (b := 7) (k := (15 + 17 * r + 7)) hx hb dX5_looks_126 rfl ?_
      refine lv_iload hx hb dX5_looks_127 (lv_at hl 0 rfl) ?_
      refine o_iadd (a := (15 + 17 * r + 7)) (b := 3) (k := (15 + 17 * r + 10)) hx hb dX5_looks_129 rfl ?_
      refine o_iald (v := nI (v 1 (15 + 17 * r + 10))) hx hb hK hP 1 0 rfl rfl (by omega) (Nat.le_of_ble_eq_true rfl) (congrArg nI (show (va_up (va_up (va_up (v 1) (15 + 17 * r + 12) (v 1 (15 + 17 * r + 7))) (15 + 17 * r + 13) (v 1 (15 + 17 * r + 8))) (15 + 17 * r + 14) (v 1 (15 + 17 * r + 9))) (15 + 17 * r + 10) = (v 1 (15 + 17 * r + 10)) from (Eq.trans (o_un (by omega)) (Eq.trans (o_un (by omega)) (o_un (by omega)))))) dX5_looks_130 ?_
      have f_8 := hw (15 + 17 * r + 10)
      refine o_iast (g := (va_up (va_up (va_up (v 1) (15 + 17 * r + 12) (v 1 (15 + 17 * r + 7))) (15 + 17 * r + 13) (v 1 (15 + 17 * r + 8))) (15 + 17 * r + 14) (v 1 (15 + 17 * r + 9)))) hx hb hK hP hD hS 1 0 rfl rfl (by omega) (Nat.le_of_ble_eq_true rfl) dX5_looks_131 (fun H locs hP hD hS => ?_)
      have hP : va_P D vwCl (wM q cI (va_up v 1 (va_up (va_up (va_up (va_up (v 1) (15 + 17 * r + 12) (v 1 (15 + 17 * r + 7))) (15 + 17 * r + 13) (v 1 (15 + 17 * r + 8))) (15 + 17 * r + 14) (v 1 (15 + 17 * r + 9))) (15 + 17 * r + 15) (v 1 (15 + 17 * r + 10))))) H := hP
      have hD : va_D A (wM q cI (va_up v 1 (va_up (va_up (va_up (va_up (v 1) (15 + 17 * r + 12) (v 1 (15 + 17 * r + 7))) (15 + 17 * r + 13) (v 1 (15 + 17 * r + 8))) (15 + 17 * r + 14) (v 1 (15 + 17 * r + 9))) (15 + 17 * r + 15) (v 1 (15 + 17 * r + 10))))) := hD
      refine lv_iinc (v := nI 4) (lv' := [(4, .int (nI 4)), (3, .int (nI (v 1 (15 + 17 * r + 2)))), (2, .int (nI (15 + 17 * r))), (0, .ref (q 0)), (1, .int (nI r))]) hx hb dX5_looks_132 hl (k := 0) rfl (by decide) (by decide) rfl (fun ls hl => ?_)
      refine lv_goto (tgt := 102) hx hb dX5_looks_135 (by decide) ?_
      refine lv_iload hx hb dX5_looks_102 (lv_at hl 0 rfl) ?_
      refine o_const (k := 5) hx hb dX5_looks_104 (by decide) ?_
      refine o_icmp_ge (tgt := 138) hx hb dX5_looks_105 (by decide) (Nat.le_of_ble_eq_true rfl) (Nat.le_of_ble_eq_true rfl) (fun c0 => absurd c0 (by decide)) (fun _ => ?_)
      refine lv_aload_n hx hb dX5_looks_108 rfl (lv_at hl 3 rfl) ?_
      refine va_get (D := D) (ci := 5) (v := .ref (q 1)) (C := RX5) (T := TX5) (N := 10) hx hb hts inX5_looks_X5 hown hK hP 0 rfl rfl 0 (by decide) (hts (.fieldLink RX5 7 "OddNoticeModel" "now" "[I") (List.mem_of_getElem? (i := 1) (by decide +kernel))) (fun _ h9 => h9) rfl dX5_looks_109 ?_
      refine lv_iload_n hx hb dX5_looks_112 rfl (lv_at hl 2 rfl) ?_
      refine o_bipush (k := 12) hx hb dX5_looks_113 (by decide) ?_
      refine o_iadd (a := (15 + 17 * r)) (b := 12) (k := (15 + 17 * r + 12)) hx hb dX5_looks_115 rfl ?_
      refine lv_iload hx hb dX5_looks_116 (lv_at hl 0 rfl) ?_
      refine o_iadd (a := (15 + 17 * r + 12)) (b := 4) (k := (15 + 17 * r + 16)) hx hb dX5_looks_118 rfl ?_
      refine lv_aload_n hx hb dX5_looks_119 rfl (lv_at hl 3 rfl) ?_
      refine va_get (D := D) (ci := 5) (v := .ref (q 1)) (C := RX5) (T := TX5) (N := 10) hx hb hts inX5_looks_X5 hown hK hP 0 rfl rfl 0 (by decide) (hts (.fieldLink RX5 7 "OddNoticeModel" "now" "[I") (List.mem_of_getElem? (i := 1) (by decide +kernel))) (fun _ h9 => h9) rfl dX5_looks_120 ?_
      refine lv_iload_n hx hb dX5_looks_123 rfl (lv_at hl 2 rfl) ?_
      refine o_bipush (k := 7) hx hb dX5_looks_124 (by decide) ?_
      refine o_iadd (a := (15 + 17 * r)) (b := 7) (k := (15 + 17 * r + 7)) hx hb dX5_looks_126 rfl ?_
      refine lv_iload hx hb dX5_looks_127 (lv_at hl 0 rfl) ?_
      refine o_iadd (a := (15 + 17 * r + 7)) (b := 4) (k := (15 + 17 * r + 11)) hx hb dX5_looks_129 rfl ?_
      refine o_iald (v := nI (v 1 (15 + 17 * r + 11))) hx hb hK hP 1 0 rfl rfl (by omega) (Nat.le_of_ble_eq_true rfl) (congrArg nI (show (va_up (va_up (va_up (va_up (v 1) (15 + 17 * r + 12) (v 1 (15 + 17 * r + 7))) (15 + 17 * r + 13) (v 1 (15 + 17 * r + 8))) (15 + 17 * r + 14) (v 1 (15 + 17 * r + 9))) (15 + 17 * r + 15) (v 1 (15 + 17 * r + 10))) (15 + 17 * r + 11) = (v 1 (15 + 17 * r + 11)) from (Eq.trans (o_un (by omega)) (Eq.trans (o_un (by omega)) (Eq.trans (o_un (by omega)) (o_un (by omega))))))) dX5_looks_130 ?_
      have f_9 := hw (15 + 17 * r + 11)
      refine o_iast (g := (va_up (va_up (va_up (va_up (v 1) (15 + 17 * r + 12) (v 1 (15 + 17 * r + 7))) (15 + 17 * r + 13) (v 1 (15 + 17 * r + 8))) (15 + 17 * r + 14) (v 1 (15 + 17 * r + 9))) (15 + 17 * r + 15) (v 1 (15 + 17 * r + 10)))) hx hb hK hP hD hS 1 0 rfl rfl (by omega) (Nat.le_of_ble_eq_true rfl) dX5_looks_131 (fun H locs hP hD hS => ?_)
      have hP : va_P D vwCl (wM q cI (va_up v 1 (va_up (va_up (va_up (va_up (va_up (v 1) (15 + 17 * r + 12) (v 1 (15 + 17 * r + 7))) (15 + 17 * r + 13) (v 1 (15 + 17 * r + 8))) (15 + 17 * r + 14) (v 1 (15 + 17 * r + 9))) (15 + 17 * r + 15) (v 1 (15 + 17 * r + 10))) (15 + 17 * r + 16) (v 1 (15 + 17 * r + 11))))) H := hP
      have hD : va_D A (wM q cI (va_up v 1 (va_up (va_up (va_up (va_up (va_up (v 1) (15 + 17 * r + 12) (v 1 (15 + 17 * r + 7))) (15 + 17 * r + 13) (v 1 (15 + 17 * r + 8))) (15 + 17 * r + 14) (v 1 (15 + 17 * r + 9))) (15 + 17 * r + 15) (v 1 (15 + 17 * r + 10))) (15 + 17 * r + 16) (v 1 (15 + 17 * r + 11))))) := hD
      refine lv_iinc (v := nI 5) (lv' := [(4, .int (nI 5)), (3, .int (nI (v 1 (15 + 17 * r + 2)))), (2, .int (nI (15 + 17 * r))), (0, .ref (q 0)), (1, .int (nI r))]) hx hb dX5_looks_132 hl (k := 0) rfl (by decide) (by decide) rfl (fun ls hl => ?_)
      refine lv_goto (tgt := 102) hx hb dX5_looks_135 (by decide) ?_
      refine lv_iload hx hb dX5_looks_102 (lv_at hl 0 rfl) ?_
      refine o_const (k := 5) hx hb dX5_looks_104 (by decide) ?_
      refine o_icmp_ge (tgt := 138) hx hb dX5_looks_105 (by decide) (Nat.le_of_ble_eq_true rfl) (Nat.le_of_ble_eq_true rfl) (fun _ => ?_) (fun c0 => absurd c0 (by decide))
      refine lv_aload_n hx hb dX5_looks_138 rfl (lv_at hl 3 rfl) ?_
      refine va_get (D := D) (ci := 5) (v := .ref (q 1)) (C := RX5) (T := TX5) (N := 10) hx hb hts inX5_looks_X5 hown hK hP 0 rfl rfl 0 (by decide) (hts (.fieldLink RX5 7 "OddNoticeModel" "now" "[I") (List.mem_of_getElem? (i := 1) (by decide +kernel))) (fun _ h9 => h9) rfl dX5_looks_139 ?_
      refine lv_iload_n hx hb dX5_looks_142 rfl (lv_at hl 2 rfl) ?_
      refine o_bipush (k := 6) hx hb dX5_looks_143 (by decide) ?_
      refine o_iadd (a := (15 + 17 * r)) (b := 6) (k := (15 + 17 * r + 6)) hx hb dX5_looks_145 rfl ?_
      refine o_const (k := 1) hx hb dX5_looks_146 (by decide) ?_
      refine o_iast (g := (va_up (va_up (va_up (va_up (va_up (v 1) (15 + 17 * r + 12) (v 1 (15 + 17 * r + 7))) (15 + 17 * r + 13) (v 1 (15 + 17 * r + 8))) (15 + 17 * r + 14) (v 1 (15 + 17 * r + 9))) (15 + 17 * r + 15) (v 1 (15 + 17 * r + 10))) (15 + 17 * r + 16) (v 1 (15 + 17 * r + 11)))) hx hb hK hP hD hS 1 0 rfl rfl (by omega) (Nat.le_of_ble_eq_true rfl) dX5_looks_147 (fun H locs hP hD hS => ?_)
      have hP : va_P D vwCl (wM q cI (va_up v 1 (va_up (va_up (va_up (va_up (va_up (va_up (v 1) (15 + 17 * r + 12) (v 1 (15 + 17 * r + 7))) (15 + 17 * r + 13) (v 1 (15 + 17 * r + 8))) (15 + 17 * r + 14) (v 1 (15 + 17 * r + 9))) (15 + 17 * r + 15) (v 1 (15 + 17 * r + 10))) (15 + 17 * r + 16) (v 1 (15 + 17 * r + 11))) (15 + 17 * r + 6) 1))) H := hP
      have hD : va_D A (wM q cI (va_up v 1 (va_up (va_up (va_up (va_up (va_up (va_up (v 1) (15 + 17 * r + 12) (v 1 (15 + 17 * r + 7))) (15 + 17 * r + 13) (v 1 (15 + 17 * r + 8))) (15 + 17 * r + 14) (v 1 (15 + 17 * r + 9))) (15 + 17 * r + 15) (v 1 (15 + 17 * r + 10))) (15 + 17 * r + 16) (v 1 (15 + 17 * r + 11))) (15 + 17 * r + 6) 1))) := hD
      refine lv_aload_n hx hb dX5_looks_148 rfl (lv_at hl 3 rfl) ?_
      refine va_get (D := D) (ci := 5) (v := .ref (q 1)) (C := RX5) (T := TX5) (N := 10) hx hb hts inX5_looks_X5 hown hK hP 0 rfl rfl 0 (by decide) (hts (.fieldLink RX5 7 "OddNoticeModel" "now" "[I") (List.mem_of_getElem? (i := 1) (by decide +kernel))) (fun _ h9 => h9) rfl dX5_looks_149 ?_
      refine lv_iload_n hx hb dX5_looks_152 rfl (lv_at hl 2 rfl) ?_
      refine o_const (k := 1) hx hb dX5_looks_153 (by decide) ?_
      refine o_iadd (a := (15 + 17 * r)) (b := 1) (k := (15 + 17 * r + 1)) hx hb dX5_looks_154 rfl ?_
      refine o_const (k := 4294967295) hx hb dX5_looks_155 (by decide) ?_
      refine o_iast (g := (va_up (va_up (va_up (va_up (va_up (va_up (v 1) (15 + 17 * r + 12) (v 1 (15 + 17 * r + 7))) (15 + 17 * r + 13) (v 1 (15 + 17 * r + 8))) (15 + 17 * r + 14) (v 1 (15 + 17 * r + 9))) (15 + 17 * r + 15) (v 1 (15 + 17 * r + 10))) (15 + 17 * r + 16) (v 1 (15 + 17 * r + 11))) (15 + 17 * r + 6) 1)) hx hb hK hP hD hS 1 0 rfl rfl (by omega) (Nat.le_of_ble_eq_true rfl) dX5_looks_156 (fun H locs hP hD hS => ?_)
      have hP : va_P D vwCl (wM q cI (va_up v 1 (va_up (va_up (va_up (va_up (va_up (va_up (va_up (v 1) (15 + 17 * r + 12) (v 1 (15 + 17 * r + 7))) (15 + 17 * r + 13) (v 1 (15 + 17 * r + 8))) (15 + 17 * r + 14) (v 1 (15 + 17 * r + 9))) (15 + 17 * r + 15) (v 1 (15 + 17 * r + 10))) (15 + 17 * r + 16) (v 1 (15 + 17 * r + 11))) (15 + 17 * r + 6) 1) (15 + 17 * r + 1) 4294967295))) H := hP
      have hD : va_D A (wM q cI (va_up v 1 (va_up (va_up (va_up (va_up (va_up (va_up (va_up (v 1) (15 + 17 * r + 12) (v 1 (15 + 17 * r + 7))) (15 + 17 * r + 13) (v 1 (15 + 17 * r + 8))) (15 + 17 * r + 14) (v 1 (15 + 17 * r + 9))) (15 + 17 * r + 15) (v 1 (15 + 17 * r + 10))) (15 + 17 * r + 16) (v 1 (15 + 17 * r + 11))) (15 + 17 * r + 6) 1) (15 + 17 * r + 1) 4294967295))) := hD
      refine lv_aload_n hx hb dX5_looks_157 rfl (lv_at hl 3 rfl) ?_
      refine va_get (D := D) (ci := 5) (v := .ref (q 1)) (C := RX5) (T := TX5) (N := 10) hx hb hts inX5_looks_X5 hown hK hP 0 rfl rfl 0 (by decide) (hts (.fieldLink RX5 7 "OddNoticeModel" "now" "[I") (List.mem_of_getElem? (i := 1) (by decide +kernel))) (fun _ h9 => h9) rfl dX5_looks_158 ?_
      refine lv_iload_n hx hb dX5_looks_161 rfl (lv_at hl 2 rfl) ?_
      refine o_const (k := 3) hx hb dX5_looks_162 (by decide) ?_
      refine o_iadd (a := (15 + 17 * r)) (b := 3) (k := (15 + 17 * r + 3)) hx hb dX5_looks_163 rfl ?_
      refine o_const (k := 0) hx hb dX5_looks_164 (by decide) ?_
      refine o_iast (g := (va_up (va_up (va_up (va_up (va_up (va_up (va_up (v 1) (15 + 17 * r + 12) (v 1 (15 + 17 * r + 7))) (15 + 17 * r + 13) (v 1 (15 + 17 * r + 8))) (15 + 17 * r + 14) (v 1 (15 + 17 * r + 9))) (15 + 17 * r + 15) (v 1 (15 + 17 * r + 10))) (15 + 17 * r + 16) (v 1 (15 + 17 * r + 11))) (15 + 17 * r + 6) 1) (15 + 17 * r + 1) 4294967295)) hx hb hK hP hD hS 1 0 rfl rfl (by omega) (Nat.le_of_ble_eq_true rfl) dX5_looks_165 (fun H locs hP hD hS => ?_)
      have hP : va_P D vwCl (wM q cI (va_up v 1 (va_up (va_up (va_up (va_up (va_up (va_up (va_up (va_up (v 1) (15 + 17 * r + 12) (v 1 (15 + 17 * r + 7))) (15 + 17 * r + 13) (v 1 (15 + 17 * r + 8))) (15 + 17 * r + 14) (v 1 (15 + 17 * r + 9))) (15 + 17 * r + 15) (v 1 (15 + 17 * r + 10))) (15 + 17 * r + 16) (v 1 (15 + 17 * r + 11))) (15 + 17 * r + 6) 1) (15 + 17 * r + 1) 4294967295) (15 + 17 * r + 3) 0))) H := hP
      have hD : va_D A (wM q cI (va_up v 1 (va_up (va_up (va_up (va_up (va_up (va_up (va_up (va_up (v 1) (15 + 17 * r + 12) (v 1 (15 + 17 * r + 7))) (15 + 17 * r + 13) (v 1 (15 + 17 * r + 8))) (15 + 17 * r + 14) (v 1 (15 + 17 * r + 9))) (15 + 17 * r + 15) (v 1 (15 + 17 * r + 10))) (15 + 17 * r + 16) (v 1 (15 + 17 * r + 11))) (15 + 17 * r + 6) 1) (15 + 17 * r + 1) 4294967295) (15 + 17 * r + 3) 0))) := hD
      refine lv_aload_n hx hb dX5_looks_166 rfl (lv_at hl 3 rfl) ?_
      refine va_get (D := D) (ci := 5) (v := .ref (q 1)) (C := RX5) (T := TX5) (N := 10) hx hb hts inX5_looks_X5 hown hK hP 0 rfl rfl 0 (by decide) (hts (.fieldLink RX5 7 "OddNoticeModel" "now" "[I") (List.mem_of_getElem? (i := 1) (by decide +kernel))) (fun _ h9 => h9) rfl dX5_looks_167 ?_
      refine lv_iload_n hx hb dX5_looks_170 rfl (lv_at hl 2 rfl) ?_
      refine o_const (k := 5) hx hb dX5_looks_171 (by decide) ?_
      refine o_iadd (a := (15 + 17 * r)) (b := 5) (k := (15 + 17 * r + 5)) hx hb dX5_looks_172 rfl ?_
      refine lv_dup2_11 hx hb dX5_looks_173 rfl rfl ?_
      refine o_iald (v := nI (v 1 (15 + 17 * r + 5))) hx hb hK hP 1 0 rfl rfl (by omega) (Nat.le_of_ble_eq_true rfl) (congrArg nI (show (va_up (va_up (va_up (va_up (va_up (va_up (va_up (va_up (v 1) (15 + 17 * r + 12) (v 1 (15 + 17 * r + 7))) (15 + 17 * r + 13) (v 1 (15 + 17 * r + 8))) (15 + 17 * r + 14) (v 1 (15 + 17 * r + 9))) (15 + 17 * r + 15) (v 1 (15 + 17 * r + 10))) (15 + 17 * r + 16) (v 1 (15 + 17 * r + 11))) (15 + 17 * r + 6) 1) (15 + 17 * r + 1) 4294967295) (15 + 17 * r + 3) 0) (15 + 17 * r + 5) = (v 1 (15 + 17 * r + 5)) from (Eq.trans (o_un (by omega)) (Eq.trans (o_un (by omega)) (Eq.trans (o_un (by omega)) (Eq.trans (o_un (by omega)) (Eq.trans (o_un (by omega)) (Eq.trans (o_un (by omega)) (Eq.trans (o_un (by omega)) (o_un (by omega))))))))))) dX5_looks_174 ?_
      have f_10 := hw (15 + 17 * r + 5)
      refine o_const (k := 1) hx hb dX5_looks_175 (by decide) ?_
      refine o_iadd (a := (v 1 (15 + 17 * r + 5))) (b := 1) (k := ((v 1 (15 + 17 * r + 5)) + 1)) hx hb dX5_looks_176 rfl ?_
      refine o_iast (g := (va_up (va_up (va_up (va_up (va_up (va_up (va_up (va_up (v 1) (15 + 17 * r + 12) (v 1 (15 + 17 * r + 7))) (15 + 17 * r + 13) (v 1 (15 + 17 * r + 8))) (15 + 17 * r + 14) (v 1 (15 + 17 * r + 9))) (15 + 17 * r + 15) (v 1 (15 + 17 * r + 10))) (15 + 17 * r + 16) (v 1 (15 + 17 * r + 11))) (15 + 17 * r + 6) 1) (15 + 17 * r + 1) 4294967295) (15 + 17 * r + 3) 0)) hx hb hK hP hD hS 1 0 rfl rfl (by omega) (Nat.le_of_ble_eq_true rfl) dX5_looks_177 (fun H locs hP hD hS => ?_)
      have hP : va_P D vwCl (wM q cI (va_up v 1 (va_up (va_up (va_up (va_up (va_up (va_up (va_up (va_up (va_up (v 1) (15 + 17 * r + 12) (v 1 (15 + 17 * r + 7))) (15 + 17 * r + 13) (v 1 (15 + 17 * r + 8))) (15 + 17 * r + 14) (v 1 (15 + 17 * r + 9))) (15 + 17 * r + 15) (v 1 (15 + 17 * r + 10))) (15 + 17 * r + 16) (v 1 (15 + 17 * r + 11))) (15 + 17 * r + 6) 1) (15 + 17 * r + 1) 4294967295) (15 + 17 * r + 3) 0) (15 + 17 * r + 5) ((v 1 (15 + 17 * r + 5)) + 1)))) H := hP
      have hD : va_D A (wM q cI (va_up v 1 (va_up (va_up (va_up (va_up (va_up (va_up (va_up (va_up (va_up (v 1) (15 + 17 * r + 12) (v 1 (15 + 17 * r + 7))) (15 + 17 * r + 13) (v 1 (15 + 17 * r + 8))) (15 + 17 * r + 14) (v 1 (15 + 17 * r + 9))) (15 + 17 * r + 15) (v 1 (15 + 17 * r + 10))) (15 + 17 * r + 16) (v 1 (15 + 17 * r + 11))) (15 + 17 * r + 6) 1) (15 + 17 * r + 1) 4294967295) (15 + 17 * r + 3) 0) (15 + 17 * r + 5) ((v 1 (15 + 17 * r + 5)) + 1)))) := hD
      refine lv_aload_n hx hb dX5_looks_178 rfl (lv_at hl 3 rfl) ?_
      refine va_get (D := D) (ci := 5) (v := .ref (q 1)) (C := RX5) (T := TX5) (N := 10) hx hb hts inX5_looks_X5 hown hK hP 0 rfl rfl 0 (by decide) (hts (.fieldLink RX5 7 "OddNoticeModel" "now" "[I") (List.mem_of_getElem? (i := 1) (by decide +kernel))) (fun _ h9 => h9) rfl dX5_looks_179 ?_
      refine o_const (k := 2) hx hb dX5_looks_182 (by decide) ?_
      refine lv_dup2_11 hx hb dX5_looks_183 rfl rfl ?_
      refine o_iald (v := nI (v 1 2)) hx hb hK hP 1 0 rfl rfl (Nat.le_of_ble_eq_true rfl) (Nat.le_of_ble_eq_true rfl) (congrArg nI (show (va_up (va_up (va_up (va_up (va_up (va_up (va_up (va_up (va_up (v 1) (15 + 17 * r + 12) (v 1 (15 + 17 * r + 7))) (15 + 17 * r + 13) (v 1 (15 + 17 * r + 8))) (15 + 17 * r + 14) (v 1 (15 + 17 * r + 9))) (15 + 17 * r + 15) (v 1 (15 + 17 * r + 10))) (15 + 17 * r + 16) (v 1 (15 + 17 * r + 11))) (15 + 17 * r + 6) 1) (15 + 17 * r + 1) 4294967295) (15 + 17 * r + 3) 0) (15 + 17 * r + 5) ((v 1 (15 + 17 * r + 5)) + 1)) 2 = (v 1 2) from (Eq.trans (o_un (by omega)) (Eq.trans (o_un (by omega)) (Eq.trans (o_un (by omega)) (Eq.trans (o_un (by omega)) (Eq.trans (o_un (by omega)) (Eq.trans (o_un (by omega)) (Eq.trans (o_un (by omega)) (Eq.trans (o_un (by omega)) (o_un (by omega)))))))))))) dX5_looks_184 ?_
      have f_11 := hw 2
      refine lv_aload_n hx hb dX5_looks_185 rfl (lv_at hl 3 rfl) ?_
      refine lv_iload_n hx hb dX5_looks_186 rfl (lv_at hl 2 rfl) ?_
      refine o_bipush (k := 12) hx hb dX5_looks_187 (by decide) ?_
      refine o_iadd (a := (15 + 17 * r)) (b := 12) (k := (15 + 17 * r + 12)) hx hb dX5_looks_189 rfl ?_
      refine o_ri (va_runV (As := [.int (nI (15 + 17 * r + 12))]) (rest := [.int (nI (v 1 2)), .int (nI 2), .ref (q 1)]) ⟨hx, hb, hml, hown, hts⟩ (k_X5_same l D cI cR cS cL q (va_up v 1 (va_up (va_up (va_up (va_up (va_up (va_up (va_up (va_up (va_up (v 1) (15 + 17 * r + 12) (v 1 (15 + 17 * r + 7))) (15 + 17 * r + 13) (v 1 (15 + 17 * r + 8))) (15 + 17 * r + 14) (v 1 (15 + 17 * r + 9))) (15 + 17 * r + 15) (v 1 (15 + 17 * r + 10))) (15 + 17 * r + 16) (v 1 (15 + 17 * r + 11))) (15 + 17 * r + 6) 1) (15 + 17 * r + 1) 4294967295) (15 + 17 * r + 3) 0) (15 + 17 * r + 5) ((v 1 (15 + 17 * r + 5)) + 1))) (15 + 17 * r + 12) (m_well_lt hw h5) (by show m_well (v 1) r 0 < 2 ^ 30; rw [m_well_0 hr]; exact hn) (by omega)) (cwV 1 hts gX5_looks_X5_same rfl rfl rfl (by decide +kernel) ⟨Nat.le_of_ble_eq_true rfl, Nat.le_of_ble_eq_true rfl⟩) (o_v (o_pR hK hN hP) (va_recv hK hP (ci := 5) (q0 := 0) rfl rfl)) rfl rfl hl.1 rfl (lv_room (Nat.le_of_ble_eq_true rfl)) dX5_looks_190 ⟨Nat.zero_le _, Nat.zero_le _⟩) (fun r_13 e_12 => ?_)
      have e_12 : r_13 = nI (m_fd (m_well (v 1) r) (15 + 17 * r + 12) (v 1 0 / 2) 16) := by rw [e_12]; exact congrArg nI (show m_fd (m_well (v 1) r) (15 + 17 * r + 12) (m_well (v 1) r 0 / 2) 16 = _ by rw [m_well_0 hr])
      subst e_12
      have hfd := m_fd_lt (w := m_well (v 1) r) (fr := 15 + 17 * r + 12) (m := v 1 0 / 2) 16 (by omega) (by omega)
      refine o_const (k := 4294967295) hx hb dX5_looks_193 (by decide) ?_
      refine o_icmp_ne (tgt := 201) hx hb dX5_looks_194 (by decide) (by omega) (Nat.le_of_ble_eq_true rfl) (fun c_14 => ?_) (fun c_14 => ?_)
      · skip
        refine o_const (k := 0) hx hb dX5_looks_201 (by decide) ?_
        refine o_iadd (a := (v 1 2)) (b := 0) (k := (v 1 2)) hx hb dX5_looks_202 rfl ?_
        refine o_iast (g := (va_up (va_up (va_up (va_up (va_up (va_up (va_up (va_up (va_up (v 1) (15 + 17 * r + 12) (v 1 (15 + 17 * r + 7))) (15 + 17 * r + 13) (v 1 (15 + 17 * r + 8))) (15 + 17 * r + 14) (v 1 (15 + 17 * r + 9))) (15 + 17 * r + 15) (v 1 (15 + 17 * r + 10))) (15 + 17 * r + 16) (v 1 (15 + 17 * r + 11))) (15 + 17 * r + 6) 1) (15 + 17 * r + 1) 4294967295) (15 + 17 * r + 3) 0) (15 + 17 * r + 5) ((v 1 (15 + 17 * r + 5)) + 1))) hx hb hK hP hD hS 1 0 rfl rfl (Nat.le_of_ble_eq_true rfl) (Nat.le_of_ble_eq_true rfl) dX5_looks_203 (fun H locs hP hD hS => ?_)
        have hP : va_P D vwCl (wM q cI (va_up v 1 (va_up (va_up (va_up (va_up (va_up (va_up (va_up (va_up (va_up (va_up (v 1) (15 + 17 * r + 12) (v 1 (15 + 17 * r + 7))) (15 + 17 * r + 13) (v 1 (15 + 17 * r + 8))) (15 + 17 * r + 14) (v 1 (15 + 17 * r + 9))) (15 + 17 * r + 15) (v 1 (15 + 17 * r + 10))) (15 + 17 * r + 16) (v 1 (15 + 17 * r + 11))) (15 + 17 * r + 6) 1) (15 + 17 * r + 1) 4294967295) (15 + 17 * r + 3) 0) (15 + 17 * r + 5) ((v 1 (15 + 17 * r + 5)) + 1)) 2 (v 1 2)))) H := hP
        have hD : va_D A (wM q cI (va_up v 1 (va_up (va_up (va_up (va_up (va_up (va_up (va_up (va_up (va_up (va_up (v 1) (15 + 17 * r + 12) (v 1 (15 + 17 * r + 7))) (15 + 17 * r + 13) (v 1 (15 + 17 * r + 8))) (15 + 17 * r + 14) (v 1 (15 + 17 * r + 9))) (15 + 17 * r + 15) (v 1 (15 + 17 * r + 10))) (15 + 17 * r + 16) (v 1 (15 + 17 * r + 11))) (15 + 17 * r + 6) 1) (15 + 17 * r + 1) 4294967295) (15 + 17 * r + 3) 0) (15 + 17 * r + 5) ((v 1 (15 + 17 * r + 5)) + 1)) 2 (v 1 2)))) := hD
        refine o_bipush (k := 101) hx hb dX5_looks_204 (by decide) ?_
        have w_15 : (wM q cI (va_up v 1 (m_looks (v 1) r))) = (wM q cI (va_up v 1 (va_up (va_up (va_up (va_up (va_up (va_up (va_up (va_up (va_up (va_up (v 1) (15 + 17 * r + 12) (v 1 (15 + 17 * r + 7))) (15 + 17 * r + 13) (v 1 (15 + 17 * r + 8))) (15 + 17 * r + 14) (v 1 (15 + 17 * r + 9))) (15 + 17 * r + 15) (v 1 (15 + 17 * r + 10))) (15 + 17 * r + 16) (v 1 (15 + 17 * r + 11))) (15 + 17 * r + 6) 1) (15 + 17 * r + 1) 4294967295) (15 + 17 * r + 3) 0) (15 + 17 * r + 5) ((v 1 (15 + 17 * r + 5)) + 1)) 2 (v 1 2)))) := (by unfold m_looks; rw [if_neg c_2, if_neg (by omega)]; rw [if_neg c_14]; first | done | rfl)
        rw [← w_15] at hP
        exact W.iret (v := nI 101) hx hb hrt (fun t ht hW => ⟨⟨_, (), rfl, (congrArg nI (by unfold m_looksr; (repeat' split) <;> omega)), by show va_P D vwCl _ t.heap; rw [ht]; exact hP⟩, hS.F ht⟩) hS.2.2 dX5_looks_206
      · skip
        refine o_const (k := 1) hx hb dX5_looks_197 (by decide) ?_
        refine lv_goto (tgt := 202) hx hb dX5_looks_198 (by decide) ?_
        refine o_iadd (a := (v 1 2)) (b := 1) (k := ((v 1 2) + 1)) hx hb dX5_looks_202 rfl ?_
        refine o_iast (g := (va_up (va_up (va_up (va_up (va_up (va_up (va_up (va_up (va_up (v 1) (15 + 17 * r + 12) (v 1 (15 + 17 * r + 7))) (15 + 17 * r + 13) (v 1 (15 + 17 * r + 8))) (15 + 17 * r + 14) (v 1 (15 + 17 * r + 9))) (15 + 17 * r + 15) (v 1 (15 + 17 * r + 10))) (15 + 17 * r + 16) (v 1 (15 + 17 * r + 11))) (15 + 17 * r + 6) 1) (15 + 17 * r + 1) 4294967295) (15 + 17 * r + 3) 0) (15 + 17 * r + 5) ((v 1 (15 + 17 * r + 5)) + 1))) hx hb hK hP hD hS 1 0 rfl rfl (Nat.le_of_ble_eq_true rfl) (Nat.le_of_ble_eq_true rfl) dX5_looks_203 (fun H locs hP hD hS => ?_)
        have hP : va_P D vwCl (wM q cI (va_up v 1 (va_up (va_up (va_up (va_up (va_up (va_up (va_up (va_up (va_up (va_up (v 1) (15 + 17 * r + 12) (v 1 (15 + 17 * r + 7))) (15 + 17 * r + 13) (v 1 (15 + 17 * r + 8))) (15 + 17 * r + 14) (v 1 (15 + 17 * r + 9))) (15 + 17 * r + 15) (v 1 (15 + 17 * r + 10))) (15 + 17 * r + 16) (v 1 (15 + 17 * r + 11))) (15 + 17 * r + 6) 1) (15 + 17 * r + 1) 4294967295) (15 + 17 * r + 3) 0) (15 + 17 * r + 5) ((v 1 (15 + 17 * r + 5)) + 1)) 2 ((v 1 2) + 1)))) H := hP
        have hD : va_D A (wM q cI (va_up v 1 (va_up (va_up (va_up (va_up (va_up (va_up (va_up (va_up (va_up (va_up (v 1) (15 + 17 * r + 12) (v 1 (15 + 17 * r + 7))) (15 + 17 * r + 13) (v 1 (15 + 17 * r + 8))) (15 + 17 * r + 14) (v 1 (15 + 17 * r + 9))) (15 + 17 * r + 15) (v 1 (15 + 17 * r + 10))) (15 + 17 * r + 16) (v 1 (15 + 17 * r + 11))) (15 + 17 * r + 6) 1) (15 + 17 * r + 1) 4294967295) (15 + 17 * r + 3) 0) (15 + 17 * r + 5) ((v 1 (15 + 17 * r + 5)) + 1)) 2 ((v 1 2) + 1)))) := hD
        refine o_bipush (k := 101) hx hb dX5_looks_204 (by decide) ?_
        have w_16 : (wM q cI (va_up v 1 (m_looks (v 1) r))) = (wM q cI (va_up v 1 (va_up (va_up (va_up (va_up (va_up (va_up (va_up (va_up (va_up (va_up (v 1) (15 + 17 * r + 12) (v 1 (15 + 17 * r + 7))) (15 + 17 * r + 13) (v 1 (15 + 17 * r + 8))) (15 + 17 * r + 14) (v 1 (15 + 17 * r + 9))) (15 + 17 * r + 15) (v 1 (15 + 17 * r + 10))) (15 + 17 * r + 16) (v 1 (15 + 17 * r + 11))) (15 + 17 * r + 6) 1) (15 + 17 * r + 1) 4294967295) (15 + 17 * r + 3) 0) (15 + 17 * r + 5) ((v 1 (15 + 17 * r + 5)) + 1)) 2 ((v 1 2) + 1)))) := (by unfold m_looks; rw [if_neg c_2, if_neg (by omega)]; rw [if_pos c_14]; first | done | rfl)
        rw [← w_16] at hP
        exact W.iret (v := nI 101) hx hb hrt (fun t ht hW => ⟨⟨_, (), rfl, (congrArg nI (by unfold m_looksr; (repeat' split) <;> omega)), by show va_P D vwCl _ t.heap; rw [ht]; exact hP⟩, hS.F ht⟩) hS.2.2 dX5_looks_206
    · skip
      refine lv_aload_n hx hb dX5_looks_74 rfl (lv_at hl 2 rfl) ?_
      refine va_get (D := D) (ci := 5) (v := .ref (q 1)) (C := RX5) (T := TX5) (N := 10) hx hb hts inX5_looks_X5 hown hK hP 0 rfl rfl 0 (by decide) (hts (.fieldLink RX5 7 "OddNoticeModel" "now" "[I") (List.mem_of_getElem? (i := 1) (by decide +kernel))) (fun _ h9 => h9) rfl dX5_looks_75 ?_
      refine lv_iload_n hx hb dX5_looks_78 rfl (lv_at hl 1 rfl) ?_
      refine o_const (k := 1) hx hb dX5_looks_79 (by decide) ?_
      refine o_iadd (a := (15 + 17 * r)) (b := 1) (k := (15 + 17 * r + 1)) hx hb dX5_looks_80 rfl ?_
      refine o_iald (v := nI (v 1 (15 + 17 * r + 1))) hx hb hK hP 1 0 rfl rfl (by omega) (Nat.le_of_ble_eq_true rfl) rfl dX5_looks_81 ?_
      have f_17 := hw (15 + 17 * r + 1)
      refine lv_aload_n hx hb dX5_looks_82 rfl (lv_at hl 2 rfl) ?_
      refine va_get (D := D) (ci := 5) (v := .ref (q 1)) (C := RX5) (T := TX5) (N := 10) hx hb hts inX5_looks_X5 hown hK hP 0 rfl rfl 0 (by decide) (hts (.fieldLink RX5 7 "OddNoticeModel" "now" "[I") (List.mem_of_getElem? (i := 1) (by decide +kernel))) (fun _ h9 => h9) rfl dX5_looks_83 ?_
      refine o_const (k := 0) hx hb dX5_looks_86 (by decide) ?_
      refine o_iald (v := nI (v 1 0)) hx hb hK hP 1 0 rfl rfl (Nat.le_of_ble_eq_true rfl) (Nat.le_of_ble_eq_true rfl) rfl dX5_looks_87 ?_
      have f_18 := hw 0
      refine o_icmp_eq (tgt := 99) hx hb dX5_looks_88 (by decide) (by omega) (by omega) (fun c_19 => ?_) (fun c_19 => ?_)
      · skip
        refine o_const (k := 0) hx hb dX5_looks_99 (by decide) ?_
        refine lv_istore (lv' := [(4, .int (nI 0)), (3, .int (nI (v 1 (15 + 17 * r + 2)))), (2, .int (nI (15 + 17 * r))), (0, .ref (q 0)), (1, .int (nI r))]) hx hb dX5_looks_100 hl (by decide) rfl (fun ls hl => ?_)
        refine lv_iload hx hb dX5_looks_102 (lv_at hl 0 rfl) ?_
        refine o_const (k := 5) hx hb dX5_looks_104 (by decide) ?_
        refine o_icmp_ge (tgt := 138) hx hb dX5_looks_105 (by decide) (Nat.le_of_ble_eq_true rfl) (Nat.le_of_ble_eq_true rfl) (fun c0 => absurd c0 (by decide)) (fun _ => ?_)
        refine lv_aload_n hx hb dX5_looks_108 rfl (lv_at hl 3 rfl) ?_
        refine va_get (D := D) (ci := 5) (v := .ref (q 1)) (C := RX5) (T := TX5) (N := 10) hx hb hts inX5_looks_X5 hown hK hP 0 rfl rfl 0 (by decide) (hts (.fieldLink RX5 7 "OddNoticeModel" "now" "[I") (List.mem_of_getElem? (i := 1) (by decide +kernel))) (fun _ h9 => h9) rfl dX5_looks_109 ?_
        refine lv_iload_n hx hb dX5_looks_112 rfl (lv_at hl 2 rfl) ?_
        refine o_bipush (k := 12) hx hb dX5_looks_113 (by decide) ?_
        refine o_iadd (a := (15 + 17 * r)) (b := 12) (k := (15 + 17 * r + 12)) hx hb dX5_looks_115 rfl ?_
        refine lv_iload hx hb dX5_looks_116 (lv_at hl 0 rfl) ?_
        refine o_iadd (a := (15 + 17 * r + 12)) (b := 0) (k := (15 + 17 * r + 12)) hx hb dX5_looks_118 rfl ?_
        refine lv_aload_n hx hb dX5_looks_119 rfl (lv_at hl 3 rfl) ?_
        refine va_get (D := D) (ci := 5) (v := .ref (q 1)) (C := RX5) (T := TX5) (N := 10) hx hb hts inX5_looks_X5 hown hK hP 0 rfl rfl 0 (by decide) (hts (.fieldLink RX5 7 "OddNoticeModel" "now" "[I") (List.mem_of_getElem? (i := 1) (by decide +kernel))) (fun _ h9 => h9) rfl dX5_looks_120 ?_
        refine lv_iload_n hx hb dX5_looks_123 rfl (lv_at hl 2 rfl) ?_
        refine o_bipush (k := 7) hx hb dX5_looks_124 (by decide) ?_
        refine o_iadd (a := (15 + 17 * r)) (b := 7) (k := (15 + 17 * r + 7)) hx hb dX5_looks_126 rfl ?_
        refine lv_iload hx hb dX5_looks_127 (lv_at hl 0 rfl) ?_
        refine o_iadd (a := (15 + 17 * r + 7)) (b := 0) (k := (15 + 17 * r + 7)) hx hb dX5_looks_129 rfl ?_
        refine o_iald (v := nI (v 1 (15 + 17 * r + 7))) hx hb hK hP 1 0 rfl rfl (by omega) (Nat.le_of_ble_eq_true rfl) rfl dX5_looks_130 ?_
        have f_20 := hw (15 + 17 * r + 7)
        refine o_iast (g := (v 1)) hx hb hK hP hD hS 1 0 rfl rfl (by omega) (Nat.le_of_ble_eq_true rfl) dX5_looks_131 (fun H locs hP hD hS => ?_)
        have hP : va_P D vwCl (wM q cI (va_up v 1 (va_up (v 1) (15 + 17 * r + 12) (v 1 (15 + 17 * r + 7))))) H := hP
        have hD : va_D A (wM q cI (va_up v 1 (va_up (v 1) (15 + 17 * r + 12) (v 1 (15 + 17 * r + 7))))) := hD
        refine lv_iinc (v := nI 1) (lv' := [(4, .int (nI 1)), (3, .int (nI (v 1 (15 + 17 * r + 2)))), (2, .int (nI (15 + 17 * r))), (0, .ref (q 0)), (1, .int (nI r))]) hx hb dX5_looks_132 hl (k := 0) rfl (by decide) (by decide) rfl (fun ls hl => ?_)
        refine lv_goto (tgt := 102) hx hb dX5_looks_135 (by decide) ?_
        refine lv_iload hx hb dX5_looks_102 (lv_at hl 0 rfl) ?_
        refine o_const (k := 5) hx hb dX5_looks_104 (by decide) ?_
        refine o_icmp_ge (tgt := 138) hx hb dX5_looks_105 (by decide) (Nat.le_of_ble_eq_true rfl) (Nat.le_of_ble_eq_true rfl) (fun c0 => absurd c0 (by decide)) (fun _ => ?_)
        refine lv_aload_n hx hb dX5_looks_108 rfl (lv_at hl 3 rfl) ?_
        refine va_get (D := D) (ci := 5) (v := .ref (q 1)) (C := RX5) (T := TX5) (N := 10) hx hb hts inX5_looks_X5 hown hK hP 0 rfl rfl 0 (by decide) (hts (.fieldLink RX5 7 "OddNoticeModel" "now" "[I") (List.mem_of_getElem? (i := 1) (by decide +kernel))) (fun _ h9 => h9) rfl dX5_looks_109 ?_
        refine lv_iload_n hx hb dX5_looks_112 rfl (lv_at hl 2 rfl) ?_
        refine o_bipush (k := 12) hx hb dX5_looks_113 (by decide) ?_
        refine o_iadd (a := (15 + 17 * r)) (b := 12) (k := (15 + 17 * r + 12)) hx hb dX5_looks_115 rfl ?_
        refine lv_iload hx hb dX5_looks_116 (lv_at hl 0 rfl) ?_
        refine o_iadd (a := (15 + 17 * r + 12)) (b := 1) (k := (15 + 17 * r + 13)) hx hb dX5_looks_118 rfl ?_
        refine lv_aload_n hx hb dX5_looks_119 rfl (lv_at hl 3 rfl) ?_
        refine va_get (D := D) (ci := 5) (v := .ref (q 1)) (C := RX5) (T := TX5) (N := 10) hx hb hts inX5_looks_X5 hown hK hP 0 rfl rfl 0 (by decide) (hts (.fieldLink RX5 7 "OddNoticeModel" "now" "[I") (List.mem_of_getElem? (i := 1) (by decide +kernel))) (fun _ h9 => h9) rfl dX5_looks_120 ?_
        refine lv_iload_n hx hb dX5_looks_123 rfl (lv_at hl 2 rfl) ?_
        refine o_bipush (k := 7) hx hb dX5_looks_124 (by decide) ?_
        refine o_iadd (a := (15 + 17 * r)) (b := 7) (k := (15 + 17 * r + 7)) hx hb dX5_looks_126 rfl ?_
        refine lv_iload hx hb dX5_looks_127 (lv_at hl 0 rfl) ?_
        refine o_iadd (a := (15 + 17 * r + 7)) (b := 1) (k := (15 + 17 * r + 8)) hx hb dX5_looks_129 rfl ?_
        refine o_iald (v := nI (v 1 (15 + 17 * r + 8))) hx hb hK hP 1 0 rfl rfl (by omega) (Nat.le_of_ble_eq_true rfl) (congrArg nI (show (va_up (v 1) (15 + 17 * r + 12) (v 1 (15 + 17 * r + 7))) (15 + 17 * r + 8) = (v 1 (15 + 17 * r + 8)) from (o_un (by omega)))) dX5_looks_130 ?_
        have f_21 := hw (15 + 17 * r + 8)
        refine o_iast (g := (va_up (v 1) (15 + 17 * r + 12) (v 1 (15 + 17 * r + 7)))) hx hb hK hP hD hS 1 0 rfl rfl (by omega) (Nat.le_of_ble_eq_true rfl) dX5_looks_131 (fun H locs hP hD hS => ?_)
        have hP : va_P D vwCl (wM q cI (va_up v 1 (va_up (va_up (v 1) (15 + 17 * r + 12) (v 1 (15 + 17 * r + 7))) (15 + 17 * r + 13) (v 1 (15 + 17 * r + 8))))) H := hP
        have hD : va_D A (wM q cI (va_up v 1 (va_up (va_up (v 1) (15 + 17 * r + 12) (v 1 (15 + 17 * r + 7))) (15 + 17 * r + 13) (v 1 (15 + 17 * r + 8))))) := hD
        refine lv_iinc (v := nI 2) (lv' := [(4, .int (nI 2)), (3, .int (nI (v 1 (15 + 17 * r + 2)))), (2, .int (nI (15 + 17 * r))), (0, .ref (q 0)), (1, .int (nI r))]) hx hb dX5_looks_132 hl (k := 0) rfl (by decide) (by decide) rfl (fun ls hl => ?_)
        refine lv_goto (tgt := 102) hx hb dX5_looks_135 (by decide) ?_
        refine lv_iload hx hb dX5_looks_102 (lv_at hl 0 rfl) ?_
        refine o_const (k := 5) hx hb dX5_looks_104 (by decide) ?_
        refine o_icmp_ge (tgt := 138) hx hb dX5_looks_105 (by decide) (Nat.le_of_ble_eq_true rfl) (Nat.le_of_ble_eq_true rfl) (fun c0 => absurd c0 (by decide)) (fun _ => ?_)
        refine lv_aload_n hx hb dX5_looks_108 rfl (lv_at hl 3 rfl) ?_
        refine va_get (D := D) (ci := 5) (v := .ref (q 1)) (C := RX5) (T := TX5) (N := 10) hx hb hts inX5_looks_X5 hown hK hP 0 rfl rfl 0 (by decide) (hts (.fieldLink RX5 7 "OddNoticeModel" "now" "[I") (List.mem_of_getElem? (i := 1) (by decide +kernel))) (fun _ h9 => h9) rfl dX5_looks_109 ?_
        refine lv_iload_n hx hb dX5_looks_112 rfl (lv_at hl 2 rfl) ?_
        refine o_bipush (k := 12) hx hb dX5_looks_113 (by decide) ?_
        refine o_iadd (a := (15 + 17 * r)) (b := 12) (k := (15 + 17 * r + 12)) hx hb dX5_looks_115 rfl ?_
        refine lv_iload hx hb dX5_looks_116 (lv_at hl 0 rfl) ?_
        refine o_iadd (a := (15 + 17 * r + 12)) (b := 2) (k := (15 + 17 * r + 14)) hx hb dX5_looks_118 rfl ?_
        refine lv_aload_n hx hb dX5_looks_119 rfl (lv_at hl 3 rfl) ?_
        refine va_get (D := D) (ci := 5) (v := .ref (q 1)) (C := RX5) (T := TX5) (N := 10) hx hb hts inX5_looks_X5 hown hK hP 0 rfl rfl 0 (by decide) (hts (.fieldLink RX5 7 "OddNoticeModel" "now" "[I") (List.mem_of_getElem? (i := 1) (by decide +kernel))) (fun _ h9 => h9) rfl dX5_looks_120 ?_
        refine lv_iload_n hx hb dX5_looks_123 rfl (lv_at hl 2 rfl) ?_
        refine o_bipush (k := 7) hx hb dX5_looks_124 (by decide) ?_
        refine o_iadd (a := (15 + 17 * r)) (b := 7) (k := (15 + 17 * r + 7)) hx hb dX5_looks_126 rfl ?_
        refine lv_iload hx hb dX5_looks_127 (lv_at hl 0 rfl) ?_
        refine o_iadd (a := (15 + 17 * r + 7)) (b := 2) (k := (15 + 17 * r + 9)) hx hb dX5_looks_129 rfl ?_
        refine o_iald (v := nI (v 1 (15 + 17 * r + 9))) hx hb hK hP 1 0 rfl rfl (by omega) (Nat.le_of_ble_eq_true rfl) (congrArg nI (show (va_up (va_up (v 1) (15 + 17 * r + 12) (v 1 (15 + 17 * r + 7))) (15 + 17 * r + 13) (v 1 (15 + 17 * r + 8))) (15 + 17 * r + 9) = (v 1 (15 + 17 * r + 9)) from (Eq.trans (o_un (by omega)) (o_un (by omega))))) dX5_looks_130 ?_
        have f_22 := hw (15 + 17 * r + 9)
        refine o_iast (g := (va_up (va_up (v 1) (15 + 17 * r + 12) (v 1 (15 + 17 * r + 7))) (15 + 17 * r + 13) (v 1 (15 + 17 * r + 8)))) hx hb hK hP hD hS 1 0 rfl rfl (by omega) (Nat.le_of_ble_eq_true rfl) dX5_looks_131 (fun H locs hP hD hS => ?_)
        have hP : va_P D vwCl (wM q cI (va_up v 1 (va_up (va_up (va_up (v 1) (15 + 17 * r + 12) (v 1 (15 + 17 * r + 7))) (15 + 17 * r + 13) (v 1 (15 + 17 * r + 8))) (15 + 17 * r + 14) (v 1 (15 + 17 * r + 9))))) H := hP
        have hD : va_D A (wM q cI (va_up v 1 (va_up (va_up (va_up (v 1) (15 + 17 * r + 12) (v 1 (15 + 17 * r + 7))) (15 + 17 * r + 13) (v 1 (15 + 17 * r + 8))) (15 + 17 * r + 14) (v 1 (15 + 17 * r + 9))))) := hD
        refine lv_iinc (v := nI 3) (lv' := [(4, .int (nI 3)), (3, .int (nI (v 1 (15 + 17 * r + 2)))), (2, .int (nI (15 + 17 * r))), (0, .ref (q 0)), (1, .int (nI r))]) hx hb dX5_looks_132 hl (k := 0) rfl (by decide) (by decide) rfl (fun ls hl => ?_)
        refine lv_goto (tgt := 102) hx hb dX5_looks_135 (by decide) ?_
        refine lv_iload hx hb dX5_looks_102 (lv_at hl 0 rfl) ?_
        refine o_const (k := 5) hx hb dX5_looks_104 (by decide) ?_
        refine o_icmp_ge (tgt := 138) hx hb dX5_looks_105 (by decide) (Nat.le_of_ble_eq_true rfl) (Nat.le_of_ble_eq_true rfl) (fun c0 => absurd c0 (by decide)) (fun _ => ?_)
        refine lv_aload_n hx hb dX5_looks_108 rfl (lv_at hl 3 rfl) ?_
        refine va_get (D := D) (ci := 5) (v := .ref (q 1)) (C := RX5) (T := TX5) (N := 10) hx hb hts inX5_looks_X5 hown hK hP 0 rfl rfl 0 (by decide) (hts (.fieldLink RX5 7 "OddNoticeModel" "now" "[I") (List.mem_of_getElem? (i := 1) (by decide +kernel))) (fun _ h9 => h9) rfl dX5_looks_109 ?_
        refine lv_iload_n hx hb dX5_looks_112 rfl (lv_at hl 2 rfl) ?_
        refine o_bipush (k := 12) hx hb dX5_looks_113 (by decide) ?_
        refine o_iadd (a := (15 + 17 * r)) (b := 12) (k := (15 + 17 * r + 12)) hx hb dX5_looks_115 rfl ?_
        refine lv_iload hx hb dX5_looks_116 (lv_at hl 0 rfl) ?_
        refine o_iadd (a := (15 + 17 * r + 12)) (b := 3) (k := (15 + 17 * r + 15)) hx hb dX5_looks_118 rfl ?_
        refine lv_aload_n hx hb dX5_looks_119 rfl (lv_at hl 3 rfl) ?_
        refine va_get (D := D) (ci := 5) (v := .ref (q 1)) (C := RX5) (T := TX5) (N := 10) hx hb hts inX5_looks_X5 hown hK hP 0 rfl rfl 0 (by decide) (hts (.fieldLink RX5 7 "OddNoticeModel" "now" "[I") (List.mem_of_getElem? (i := 1) (by decide +kernel))) (fun _ h9 => h9) rfl dX5_looks_120 ?_
        refine lv_iload_n hx hb dX5_looks_123 rfl (lv_at hl 2 rfl) ?_
        refine o_bipush (k := 7) hx hb dX5_looks_124 (by decide) ?_
        refine o_iadd (a := (15 + 17 * r)) (b := 7) (k := (15 + 17 * r + 7)) hx hb dX5_looks_126 rfl ?_
        refine lv_iload hx hb dX5_looks_127 (lv_at hl 0 rfl) ?_
        refine o_iadd (a := (15 + 17 * r + 7)) (b := 3) (k := (15 + 17 * r + 10)) hx hb dX5_looks_129 rfl ?_
        refine o_iald (v := nI (v 1 (15 + 17 * r + 10))) hx hb hK hP 1 0 rfl rfl (by omega) (Nat.le_of_ble_eq_true rfl) (congrArg nI (show (va_up (va_up (va_up (v 1) (15 + 17 * r + 12) (v 1 (15 + 17 * r + 7))) (15 + 17 * r + 13) (v 1 (15 + 17 * r + 8))) (15 + 17 * r + 14) (v 1 (15 + 17 * r + 9))) (15 + 17 * r + 10) = (v 1 (15 + 17 * r + 10)) from (Eq.trans (o_un (by omega)) (Eq.trans (o_un (by omega)) (o_un (by omega)))))) dX5_looks_130 ?_
        have f_23 := hw (15 + 17 * r + 10)
        refine o_iast (g := (va_up (va_up (va_up (v 1) (15 + 17 * r + 12) (v 1 (15 + 17 * r + 7))) (15 + 17 * r + 13) (v 1 (15 + 17 * r + 8))) (15 + 17 * r + 14) (v 1 (15 + 17 * r + 9)))) hx hb hK hP hD hS 1 0 rfl rfl (by omega) (Nat.le_of_ble_eq_true rfl) dX5_looks_131 (fun H locs hP hD hS => ?_)
        have hP : va_P D vwCl (wM q cI (va_up v 1 (va_up (va_up (va_up (va_up (v 1) (15 + 17 * r + 12) (v 1 (15 + 17 * r + 7))) (15 + 17 * r + 13) (v 1 (15 + 17 * r + 8))) (15 + 17 * r + 14) (v 1 (15 + 17 * r + 9))) (15 + 17 * r + 15) (v 1 (15 + 17 * r + 10))))) H := hP
        have hD : va_D A (wM q cI (va_up v 1 (va_up (va_up (va_up (va_up (v 1) (15 + 17 * r + 12) (v 1 (15 + 17 * r + 7))) (15 + 17 * r + 13) (v 1 (15 + 17 * r + 8))) (15 + 17 * r + 14) (v 1 (15 + 17 * r + 9))) (15 + 17 * r + 15) (v 1 (15 + 17 * r + 10))))) := hD
        refine lv_iinc (v := nI 4) (lv' := [(4, .int (nI 4)), (3, .int (nI (v 1 (15 + 17 * r + 2)))), (2, .int (nI (15 + 17 * r))), (0, .ref (q 0)), (1, .int (nI r))]) hx hb dX5_looks_132 hl (k := 0) rfl (by decide) (by decide) rfl (fun ls hl => ?_)
        refine lv_goto (tgt := 102) hx hb dX5_looks_135 (by decide) ?_
        refine lv_iload hx hb dX5_looks_102 (lv_at hl 0 rfl) ?_
        refine o_const (k := 5) hx hb dX5_looks_104 (by decide) ?_
        refine o_icmp_ge (tgt := 138) hx hb dX5_looks_105 (by decide) (Nat.le_of_ble_eq_true rfl) (Nat.le_of_ble_eq_true rfl) (fun c0 => absurd c0 (by decide)) (fun _ => ?_)
        refine lv_aload_n hx hb dX5_looks_108 rfl (lv_at hl 3 rfl) ?_
        refine va_get (D := D) (ci := 5) (v := .ref (q 1)) (C := RX5) (T := TX5) (N := 10) hx hb hts inX5_looks_X5 hown hK hP 0 rfl rfl 0 (by decide) (hts (.fieldLink RX5 7 "OddNoticeModel" "now" "[I") (List.mem_of_getElem? (i := 1) (by decide +kernel))) (fun _ h9 => h9) rfl dX5_looks_109 ?_
        refine lv_iload_n hx hb dX5_looks_112 rfl (lv_at hl 2 rfl) ?_
        refine o_bipush (k := 12) hx hb dX5_looks_113 (by decide) ?_
        refine o_iadd (a := (15 + 17 * r)) (b := 12) (k := (15 + 17 * r + 12)) hx hb dX5_looks_115 rfl ?_
        refine lv_iload hx hb dX5_looks_116 (lv_at hl 0 rfl) ?_
        refine o_iadd (a := (15 + 17 * r + 12)) (b := 4) (k := (15 + 17 * r + 16)) hx hb dX5_looks_118 rfl ?_
        refine lv_aload_n hx hb dX5_looks_119 rfl (lv_at hl 3 rfl) ?_
        refine va_get (D := D) (ci := 5) (v := .ref (q 1)) (C := RX5) (T := TX5) (N := 10) hx hb hts inX5_looks_X5 hown hK hP 0 rfl rfl 0 (by decide) (hts (.fieldLink RX5 7 "OddNoticeModel" "now" "[I") (List.mem_of_getElem? (i := 1) (by decide +kernel))) (fun _ h9 => h9) rfl dX5_looks_120 ?_
        refine lv_iload_n hx hb dX5_looks_123 rfl (lv_at hl 2 rfl) ?_
        refine o_bipush (k := 7) hx hb dX5_looks_124 (by decide) ?_
        refine o_iadd (a := (15 + 17 * r)) (b := 7) (k := (15 + 17 * r + 7)) hx hb dX5_looks_126 rfl ?_
        refine lv_iload hx hb dX5_looks_127 (lv_at hl 0 rfl) ?_
        refine o_iadd (a := (15 + 17 * r + 7)) (b := 4) (k := (15 + 17 * r + 11)) hx hb dX5_looks_129 rfl ?_
        refine o_iald (v := nI (v 1 (15 + 17 * r + 11))) hx hb hK hP 1 0 rfl rfl (by omega) (Nat.le_of_ble_eq_true rfl) (congrArg nI (show (va_up (va_up (va_up (va_up (v 1) (15 + 17 * r + 12) (v 1 (15 + 17 * r + 7))) (15 + 17 * r + 13) (v 1 (15 + 17 * r + 8))) (15 + 17 * r + 14) (v 1 (15 + 17 * r + 9))) (15 + 17 * r + 15) (v 1 (15 + 17 * r + 10))) (15 + 17 * r + 11) = (v 1 (15 + 17 * r + 11)) from (Eq.trans (o_un (by omega)) (Eq.trans (o_un (by omega)) (Eq.trans (o_un (by omega)) (o_un (by omega))))))) dX5_looks_130 ?_
        have f_24 := hw (15 + 17 * r + 11)
        refine o_iast (g := (va_up (va_up (va_up (va_up (v 1) (15 + 17 * r + 12) (v 1 (15 + 17 * r + 7))) (15 + 17 * r + 13) (v 1 (15 + 17 * r + 8))) (15 + 17 * r + 14) (v 1 (15 + 17 * r + 9))) (15 + 17 * r + 15) (v 1 (15 + 17 * r + 10)))) hx hb hK hP hD hS 1 0 rfl rfl (by omega) (Nat.le_of_ble_eq_true rfl) dX5_looks_131 (fun H locs hP hD hS => ?_)
        have hP : va_P D vwCl (wM q cI (va_up v 1 (va_up (va_up (va_up (va_up (va_up (v 1) (15 + 17 * r + 12) (v 1 (15 + 17 * r + 7))) (15 + 17 * r + 13) (v 1 (15 + 17 * r + 8))) (15 + 17 * r + 14) (v 1 (15 + 17 * r + 9))) (15 + 17 * r + 15) (v 1 (15 + 17 * r + 10))) (15 + 17 * r + 16) (v 1 (15 + 17 * r + 11))))) H := hP
        have hD : va_D A (wM q cI (va_up v 1 (va_up (va_up (va_up (va_up (va_up (v 1) (15 + 17 * r + 12) (v 1 (15 + 17 * r + 7))) (15 + 17 * r + 13) (v 1 (15 + 17 * r + 8))) (15 + 17 * r + 14) (v 1 (15 + 17 * r + 9))) (15 + 17 * r + 15) (v 1 (15 + 17 * r + 10))) (15 + 17 * r + 16) (v 1 (15 + 17 * r + 11))))) := hD
        refine lv_iinc (v := nI 5) (lv' := [(4, .int (nI 5)), (3, .int (nI (v 1 (15 + 17 * r + 2)))), (2, .int (nI (15 + 17 * r))), (0, .ref (q 0)), (1, .int (nI r))]) hx hb dX5_looks_132 hl (k := 0) rfl (by decide) (by decide) rfl (fun ls hl => ?_)
        refine lv_goto (tgt := 102) hx hb dX5_looks_135 (by decide) ?_
        refine lv_iload hx hb dX5_looks_102 (lv_at hl 0 rfl) ?_
        refine o_const (k := 5) hx hb dX5_looks_104 (by decide) ?_
        refine o_icmp_ge (tgt := 138) hx hb dX5_looks_105 (by decide) (Nat.le_of_ble_eq_true rfl) (Nat.le_of_ble_eq_true rfl) (fun _ => ?_) (fun c0 => absurd c0 (by decide))
        refine lv_aload_n hx hb dX5_looks_138 rfl (lv_at hl 3 rfl) ?_
        refine va_get (D := D) (ci := 5) (v := .ref (q 1)) (C := RX5) (T := TX5) (N := 10) hx hb hts inX5_looks_X5 hown hK hP 0 rfl rfl 0 (by decide) (hts (.fieldLink RX5 7 "OddNoticeModel" "now" "[I") (List.mem_of_getElem? (i := 1) (by decide +kernel))) (fun _ h9 => h9) rfl dX5_looks_139 ?_
        refine lv_iload_n hx hb dX5_looks_142 rfl (lv_at hl 2 rfl) ?_
        refine o_bipush (k := 6) hx hb dX5_looks_143 (by decide) ?_
        refine o_iadd (a := (15 + 17 * r)) (b := 6) (k := (15 + 17 * r + 6)) hx hb dX5_looks_145 rfl ?_
        refine o_const (k := 1) hx hb dX5_looks_146 (by decide) ?_
        refine o_iast (g := (va_up (va_up (va_up (va_up (va_up (v 1) (15 + 17 * r + 12) (v 1 (15 + 17 * r + 7))) (15 + 17 * r + 13) (v 1 (15 + 17 * r + 8))) (15 + 17 * r + 14) (v 1 (15 + 17 * r + 9))) (15 + 17 * r + 15) (v 1 (15 + 17 * r + 10))) (15 + 17 * r + 16) (v 1 (15 + 17 * r + 11)))) hx hb hK hP hD hS 1 0 rfl rfl (by omega) (Nat.le_of_ble_eq_true rfl) dX5_looks_147 (fun H locs hP hD hS => ?_)
        have hP : va_P D vwCl (wM q cI (va_up v 1 (va_up (va_up (va_up (va_up (va_up (va_up (v 1) (15 + 17 * r + 12) (v 1 (15 + 17 * r + 7))) (15 + 17 * r + 13) (v 1 (15 + 17 * r + 8))) (15 + 17 * r + 14) (v 1 (15 + 17 * r + 9))) (15 + 17 * r + 15) (v 1 (15 + 17 * r + 10))) (15 + 17 * r + 16) (v 1 (15 + 17 * r + 11))) (15 + 17 * r + 6) 1))) H := hP
        have hD : va_D A (wM q cI (va_up v 1 (va_up (va_up (va_up (va_up (va_up (va_up (v 1) (15 + 17 * r + 12) (v 1 (15 + 17 * r + 7))) (15 + 17 * r + 13) (v 1 (15 + 17 * r + 8))) (15 + 17 * r + 14) (v 1 (15 + 17 * r + 9))) (15 + 17 * r + 15) (v 1 (15 + 17 * r + 10))) (15 + 17 * r + 16) (v 1 (15 + 17 * r + 11))) (15 + 17 * r + 6) 1))) := hD
        refine lv_aload_n hx hb dX5_looks_148 rfl (lv_at hl 3 rfl) ?_
        refine va_get (D := D) (ci := 5) (v := .ref (q 1)) (C := RX5) (T := TX5) (N := 10) hx hb hts inX5_looks_X5 hown hK hP 0 rfl rfl 0 (by decide) (hts (.fieldLink RX5 7 "OddNoticeModel" "now" "[I") (List.mem_of_getElem? (i := 1) (by decide +kernel))) (fun _ h9 => h9) rfl dX5_looks_149 ?_
        refine lv_iload_n hx hb dX5_looks_152 rfl (lv_at hl 2 rfl) ?_
        refine o_const (k := 1) hx hb dX5_looks_153 (by decide) ?_
        refine o_iadd (a := (15 + 17 * r)) (b := 1) (k := (15 + 17 * r + 1)) hx hb dX5_looks_154 rfl ?_
        refine o_const (k := 4294967295) hx hb dX5_looks_155 (by decide) ?_
        refine o_iast (g := (va_up (va_up (va_up (va_up (va_up (va_up (v 1) (15 + 17 * r + 12) (v 1 (15 + 17 * r + 7))) (15 + 17 * r + 13) (v 1 (15 + 17 * r + 8))) (15 + 17 * r + 14) (v 1 (15 + 17 * r + 9))) (15 + 17 * r + 15) (v 1 (15 + 17 * r + 10))) (15 + 17 * r + 16) (v 1 (15 + 17 * r + 11))) (15 + 17 * r + 6) 1)) hx hb hK hP hD hS 1 0 rfl rfl (by omega) (Nat.le_of_ble_eq_true rfl) dX5_looks_156 (fun H locs hP hD hS => ?_)
        have hP : va_P D vwCl (wM q cI (va_up v 1 (va_up (va_up (va_up (va_up (va_up (va_up (va_up (v 1) (15 + 17 * r + 12) (v 1 (15 + 17 * r + 7))) (15 + 17 * r + 13) (v 1 (15 + 17 * r + 8))) (15 + 17 * r + 14) (v 1 (15 + 17 * r + 9))) (15 + 17 * r + 15) (v 1 (15 + 17 * r + 10))) (15 + 17 * r + 16) (v 1 (15 + 17 * r + 11))) (15 + 17 * r + 6) 1) (15 + 17 * r + 1) 4294967295))) H := hP
        have hD : va_D A (wM q cI (va_up v 1 (va_up (va_up (va_up (va_up (va_up (va_up (va_up (v 1) (15 + 17 * r + 12) (v 1 (15 + 17 * r + 7))) (15 + 17 * r + 13) (v 1 (15 + 17 * r + 8))) (15 + 17 * r + 14) (v 1 (15 + 17 * r + 9))) (15 + 17 * r + 15) (v 1 (15 + 17 * r + 10))) (15 + 17 * r + 16) (v 1 (15 + 17 * r + 11))) (15 + 17 * r + 6) 1) (15 + 17 * r + 1) 4294967295))) := hD
        refine lv_aload_n hx hb dX5_looks_157 rfl (lv_at hl 3 rfl) ?_
        refine va_get (D := D) (ci := 5) (v := .ref (q 1)) (C := RX5) (T := TX5) (N := 10) hx hb hts inX5_looks_X5 hown hK hP 0 rfl rfl 0 (by decide) (hts (.fieldLink RX5 7 "OddNoticeModel" "now" "[I") (List.mem_of_getElem? (i := 1) (by decide +kernel))) (fun _ h9 => h9) rfl dX5_looks_158 ?_
        refine lv_iload_n hx hb dX5_looks_161 rfl (lv_at hl 2 rfl) ?_
        refine o_const (k := 3) hx hb dX5_looks_162 (by decide) ?_
        refine o_iadd (a := (15 + 17 * r)) (b := 3) (k := (15 + 17 * r + 3)) hx hb dX5_looks_163 rfl ?_
        refine o_const (k := 0) hx hb dX5_looks_164 (by decide) ?_
        refine o_iast (g := (va_up (va_up (va_up (va_up (va_up (va_up (va_up (v 1) (15 + 17 * r + 12) (v 1 (15 + 17 * r + 7))) (15 + 17 * r + 13) (v 1 (15 + 17 * r + 8))) (15 + 17 * r + 14) (v 1 (15 + 17 * r + 9))) (15 + 17 * r + 15) (v 1 (15 + 17 * r + 10))) (15 + 17 * r + 16) (v 1 (15 + 17 * r + 11))) (15 + 17 * r + 6) 1) (15 + 17 * r + 1) 4294967295)) hx hb hK hP hD hS 1 0 rfl rfl (by omega) (Nat.le_of_ble_eq_true rfl) dX5_looks_165 (fun H locs hP hD hS => ?_)
        have hP : va_P D vwCl (wM q cI (va_up v 1 (va_up (va_up (va_up (va_up (va_up (va_up (va_up (va_up (v 1) (15 + 17 * r + 12) (v 1 (15 + 17 * r + 7))) (15 + 17 * r + 13) (v 1 (15 + 17 * r + 8))) (15 + 17 * r + 14) (v 1 (15 + 17 * r + 9))) (15 + 17 * r + 15) (v 1 (15 + 17 * r + 10))) (15 + 17 * r + 16) (v 1 (15 + 17 * r + 11))) (15 + 17 * r + 6) 1) (15 + 17 * r + 1) 4294967295) (15 + 17 * r + 3) 0))) H := hP
        have hD : va_D A (wM q cI (va_up v 1 (va_up (va_up (va_up (va_up (va_up (va_up (va_up (va_up (v 1) (15 + 17 * r + 12) (v 1 (15 + 17 * r + 7))) (15 + 17 * r + 13) (v 1 (15 + 17 * r + 8))) (15 + 17 * r + 14) (v 1 (15 + 17 * r + 9))) (15 + 17 * r + 15) (v 1 (15 + 17 * r + 10))) (15 + 17 * r + 16) (v 1 (15 + 17 * r + 11))) (15 + 17 * r + 6) 1) (15 + 17 * r + 1) 4294967295) (15 + 17 * r + 3) 0))) := hD
        refine lv_aload_n hx hb dX5_looks_166 rfl (lv_at hl 3 rfl) ?_
        refine va_get (D := D) (ci := 5) (v := .ref (q 1)) (C := RX5) (T := TX5) (N := 10) hx hb hts inX5_looks_X5 hown hK hP 0 rfl rfl 0 (by decide) (hts (.fieldLink RX5 7 "OddNoticeModel" "now" "[I") (List.mem_of_getElem? (i := 1) (by decide +kernel))) (fun _ h9 => h9) rfl dX5_looks_167 ?_
        refine lv_iload_n hx hb dX5_looks_170 rfl (lv_at hl 2 rfl) ?_
        refine o_const (k := 5) hx hb dX5_looks_171 (by decide) ?_
        refine o_iadd (a := (15 + 17 * r)) (b := 5) (k := (15 + 17 * r + 5)) hx hb dX5_looks_172 rfl ?_
        refine lv_dup2_11 hx hb dX5_looks_173 rfl rfl ?_
        refine o_iald (v := nI (v 1 (15 + 17 * r + 5))) hx hb hK hP 1 0 rfl rfl (by omega) (Nat.le_of_ble_eq_true rfl) (congrArg nI (show (va_up (va_up (va_up (va_up (va_up (va_up (va_up (va_up (v 1) (15 + 17 * r + 12) (v 1 (15 + 17 * r + 7))) (15 + 17 * r + 13) (v 1 (15 + 17 * r + 8))) (15 + 17 * r + 14) (v 1 (15 + 17 * r + 9))) (15 + 17 * r + 15) (v 1 (15 + 17 * r + 10))) (15 + 17 * r + 16) (v 1 (15 + 17 * r + 11))) (15 + 17 * r + 6) 1) (15 + 17 * r + 1) 4294967295) (15 + 17 * r + 3) 0) (15 + 17 * r + 5) = (v 1 (15 + 17 * r + 5)) from (Eq.trans (o_un (by omega)) (Eq.trans (o_un (by omega)) (Eq.trans (o_un (by omega)) (Eq.trans (o_un (by omega)) (Eq.trans (o_un (by omega)) (Eq.trans (o_un (by omega)) (Eq.trans (o_un (by omega)) (o_un (by omega))))))))))) dX5_looks_174 ?_
        have f_25 := hw (15 + 17 * r + 5)
        refine o_const (k := 1) hx hb dX5_looks_175 (by decide) ?_
        refine o_iadd (a := (v 1 (15 + 17 * r + 5))) (b := 1) (k := ((v 1 (15 + 17 * r + 5)) + 1)) hx hb dX5_looks_176 rfl ?_
        refine o_iast (g := (va_up (va_up (va_up (va_up (va_up (va_up (va_up (va_up (v 1) (15 + 17 * r + 12) (v 1 (15 + 17 * r + 7))) (15 + 17 * r + 13) (v 1 (15 + 17 * r + 8))) (15 + 17 * r + 14) (v 1 (15 + 17 * r + 9))) (15 + 17 * r + 15) (v 1 (15 + 17 * r + 10))) (15 + 17 * r + 16) (v 1 (15 + 17 * r + 11))) (15 + 17 * r + 6) 1) (15 + 17 * r + 1) 4294967295) (15 + 17 * r + 3) 0)) hx hb hK hP hD hS 1 0 rfl rfl (by omega) (Nat.le_of_ble_eq_true rfl) dX5_looks_177 (fun H locs hP hD hS => ?_)
        have hP : va_P D vwCl (wM q cI (va_up v 1 (va_up (va_up (va_up (va_up (va_up (va_up (va_up (va_up (va_up (v 1) (15 + 17 * r + 12) (v 1 (15 + 17 * r + 7))) (15 + 17 * r + 13) (v 1 (15 + 17 * r + 8))) (15 + 17 * r + 14) (v 1 (15 + 17 * r + 9))) (15 + 17 * r + 15) (v 1 (15 + 17 * r + 10))) (15 + 17 * r + 16) (v 1 (15 + 17 * r + 11))) (15 + 17 * r + 6) 1) (15 + 17 * r + 1) 4294967295) (15 + 17 * r + 3) 0) (15 + 17 * r + 5) ((v 1 (15 + 17 * r + 5)) + 1)))) H := hP
        have hD : va_D A (wM q cI (va_up v 1 (va_up (va_up (va_up (va_up (va_up (va_up (va_up (va_up (va_up (v 1) (15 + 17 * r + 12) (v 1 (15 + 17 * r + 7))) (15 + 17 * r + 13) (v 1 (15 + 17 * r + 8))) (15 + 17 * r + 14) (v 1 (15 + 17 * r + 9))) (15 + 17 * r + 15) (v 1 (15 + 17 * r + 10))) (15 + 17 * r + 16) (v 1 (15 + 17 * r + 11))) (15 + 17 * r + 6) 1) (15 + 17 * r + 1) 4294967295) (15 + 17 * r + 3) 0) (15 + 17 * r + 5) ((v 1 (15 + 17 * r + 5)) + 1)))) := hD
        refine lv_aload_n hx hb dX5_looks_178 rfl (lv_at hl 3 rfl) ?_
        refine va_get (D := D) (ci := 5) (v := .ref (q 1)) (C := RX5) (T := TX5) (N := 10) hx hb hts inX5_looks_X5 hown hK hP 0 rfl rfl 0 (by decide) (hts (.fieldLink RX5 7 "OddNoticeModel" "now" "[I") (List.mem_of_getElem? (i := 1) (by decide +kernel))) (fun _ h9 => h9) rfl dX5_looks_179 ?_
        refine o_const (k := 2) hx hb dX5_looks_182 (by decide) ?_
        refine lv_dup2_11 hx hb dX5_looks_183 rfl rfl ?_
        refine o_iald (v := nI (v 1 2)) hx hb hK hP 1 0 rfl rfl (Nat.le_of_ble_eq_true rfl) (Nat.le_of_ble_eq_true rfl) (congrArg nI (show (va_up (va_up (va_up (va_up (va_up (va_up (va_up (va_up (va_up (v 1) (15 + 17 * r + 12) (v 1 (15 + 17 * r + 7))) (15 + 17 * r + 13) (v 1 (15 + 17 * r + 8))) (15 + 17 * r + 14) (v 1 (15 + 17 * r + 9))) (15 + 17 * r + 15) (v 1 (15 + 17 * r + 10))) (15 + 17 * r + 16) (v 1 (15 + 17 * r + 11))) (15 + 17 * r + 6) 1) (15 + 17 * r + 1) 4294967295) (15 + 17 * r + 3) 0) (15 + 17 * r + 5) ((v 1 (15 + 17 * r + 5)) + 1)) 2 = (v 1 2) from (Eq.trans (o_un (by omega)) (Eq.trans (o_un (by omega)) (Eq.trans (o_un (by omega)) (Eq.trans (o_un (by omega)) (Eq.trans (o_un (by omega)) (Eq.trans (o_un (by omega)) (Eq.trans (o_un (by omega)) (Eq.trans (o_un (by omega)) (o_un (by omega)))))))))))) dX5_looks_184 ?_
        have f_26 := hw 2
        refine lv_aload_n hx hb dX5_looks_185 rfl (lv_at hl 3 rfl) ?_
        refine lv_iload_n hx hb dX5_looks_186 rfl (lv_at hl 2 rfl) ?_
        refine o_bipush (k := 12) hx hb dX5_looks_187 (by decide) ?_
        refine o_iadd (a := (15 + 17 * r)) (b := 12) (k := (15 + 17 * r + 12)) hx hb dX5_looks_189 rfl ?_
        refine o_ri (va_runV (As := [.int (nI (15 + 17 * r + 12))]) (rest := [.int (nI (v 1 2)), .int (nI 2), .ref (q 1)]) ⟨hx, hb, hml, hown, hts⟩ (k_X5_same l D cI cR cS cL q (va_up v 1 (va_up (va_up (va_up (va_up (va_up (va_up (va_up (va_up (va_up (v 1) (15 + 17 * r + 12) (v 1 (15 + 17 * r + 7))) (15 + 17 * r + 13) (v 1 (15 + 17 * r + 8))) (15 + 17 * r + 14) (v 1 (15 + 17 * r + 9))) (15 + 17 * r + 15) (v 1 (15 + 17 * r + 10))) (15 + 17 * r + 16) (v 1 (15 + 17 * r + 11))) (15 + 17 * r + 6) 1) (15 + 17 * r + 1) 4294967295) (15 + 17 * r + 3) 0) (15 + 17 * r + 5) ((v 1 (15 + 17 * r + 5)) + 1))) (15 + 17 * r + 12) (m_well_lt hw h5) (by show m_well (v 1) r 0 < 2 ^ 30; rw [m_well_0 hr]; exact hn) (by omega)) (cwV 1 hts gX5_looks_X5_same rfl rfl rfl (by decide +kernel) ⟨Nat.le_of_ble_eq_true rfl, Nat.le_of_ble_eq_true rfl⟩) (o_v (o_pR hK hN hP) (va_recv hK hP (ci := 5) (q0 := 0) rfl rfl)) rfl rfl hl.1 rfl (lv_room (Nat.le_of_ble_eq_true rfl)) dX5_looks_190 ⟨Nat.zero_le _, Nat.zero_le _⟩) (fun r_28 e_27 => ?_)
        have e_27 : r_28 = nI (m_fd (m_well (v 1) r) (15 + 17 * r + 12) (v 1 0 / 2) 16) := by rw [e_27]; exact congrArg nI (show m_fd (m_well (v 1) r) (15 + 17 * r + 12) (m_well (v 1) r 0 / 2) 16 = _ by rw [m_well_0 hr])
        subst e_27
        have hfd := m_fd_lt (w := m_well (v 1) r) (fr := 15 + 17 * r + 12) (m := v 1 0 / 2) 16 (by omega) (by omega)
        refine o_const (k := 4294967295) hx hb dX5_looks_193 (by decide) ?_
        refine o_icmp_ne (tgt := 201) hx hb dX5_looks_194 (by decide) (by omega) (Nat.le_of_ble_eq_true rfl) (fun c_29 => ?_) (fun c_29 => ?_)
        · skip
          refine o_const (k := 0) hx hb dX5_looks_201 (by decide) ?_
          refine o_iadd (a := (v 1 2)) (b := 0) (k := (v 1 2)) hx hb dX5_looks_202 rfl ?_
          refine o_iast (g := (va_up (va_up (va_up (va_up (va_up (va_up (va_up (va_up (va_up (v 1) (15 + 17 * r + 12) (v 1 (15 + 17 * r + 7))) (15 + 17 * r + 13) (v 1 (15 + 17 * r + 8))) (15 + 17 * r + 14) (v 1 (15 + 17 * r + 9))) (15 + 17 * r + 15) (v 1 (15 + 17 * r + 10))) (15 + 17 * r + 16) (v 1 (15 + 17 * r + 11))) (15 + 17 * r + 6) 1) (15 + 17 * r + 1) 4294967295) (15 + 17 * r + 3) 0) (15 + 17 * r + 5) ((v 1 (15 + 17 * r + 5)) + 1))) hx hb hK hP hD hS 1 0 rfl rfl (Nat.le_of_ble_eq_true rfl) (Nat.le_of_ble_eq_true rfl) dX5_looks_203 (fun H locs hP hD hS => ?_)
          have hP : va_P D vwCl (wM q cI (va_up v 1 (va_up (va_up (va_up (va_up (va_up (va_up (va_up (va_up (va_up (va_up (v 1) (15 + 17 * r + 12) (v 1 (15 + 17 * r + 7))) (15 + 17 * r + 13) (v 1 (15 + 17 * r + 8))) (15 + 17 * r + 14) (v 1 (15 + 17 * r + 9))) (15 + 17 * r + 15) (v 1 (15 + 17 * r + 10))) (15 + 17 * r + 16) (v 1 (15 + 17 * r + 11))) (15 + 17 * r + 6) 1) (15 + 17 * r + 1) 4294967295) (15 + 17 * r + 3) 0) (15 + 17 * r + 5) ((v 1 (15 + 17 * r + 5)) + 1)) 2 (v 1 2)))) H := hP
          have hD : va_D A (wM q cI (va_up v 1 (va_up (va_up (va_up (va_up (va_up (va_up (va_up (va_up (va_up (va_up (v 1) (15 + 17 * r + 12) (v 1 (15 + 17 * r + 7))) (15 + 17 * r + 13) (v 1 (15 + 17 * r + 8))) (15 + 17 * r + 14) (v 1 (15 + 17 * r + 9))) (15 + 17 * r + 15) (v 1 (15 + 17 * r + 10))) (15 + 17 * r + 16) (v 1 (15 + 17 * r + 11))) (15 + 17 * r + 6) 1) (15 + 17 * r + 1) 4294967295) (15 + 17 * r + 3) 0) (15 + 17 * r + 5) ((v 1 (15 + 17 * r + 5)) + 1)) 2 (v 1 2)))) := hD
          refine o_bipush (k := 101) hx hb dX5_looks_204 (by decide) ?_
          have w_30 : (wM q cI (va_up v 1 (m_looks (v 1) r))) = (wM q cI (va_up v 1 (va_up (va_up (va_up (va_up (va_up (va_up (va_up (va_up (va_up (va_up (v 1) (15 + 17 * r + 12) (v 1 (15 + 17 * r + 7))) (15 + 17 * r + 13) (v 1 (15 + 17 * r + 8))) (15 + 17 * r + 14) (v 1 (15 + 17 * r + 9))) (15 + 17 * r + 15) (v 1 (15 + 17 * r + 10))) (15 + 17 * r + 16) (v 1 (15 + 17 * r + 11))) (15 + 17 * r + 6) 1) (15 + 17 * r + 1) 4294967295) (15 + 17 * r + 3) 0) (15 + 17 * r + 5) ((v 1 (15 + 17 * r + 5)) + 1)) 2 (v 1 2)))) := (by unfold m_looks; rw [if_neg c_2, if_neg (by omega)]; rw [if_neg c_29]; first | done | rfl)
          rw [← w_30] at hP
          exact W.iret (v := nI 101) hx hb hrt (fun t ht hW => ⟨⟨_, (), rfl, (congrArg nI (by unfold m_looksr; (repeat' split) <;> omega)), by show va_P D vwCl _ t.heap; rw [ht]; exact hP⟩, hS.F ht⟩) hS.2.2 dX5_looks_206
        · skip
          refine o_const (k := 1) hx hb dX5_looks_197 (by decide) ?_
          refine lv_goto (tgt := 202) hx hb dX5_looks_198 (by decide) ?_
          refine o_iadd (a := (v 1 2)) (b := 1) (k := ((v 1 2) + 1)) hx hb dX5_looks_202 rfl ?_
          refine o_iast (g := (va_up (va_up (va_up (va_up (va_up (va_up (va_up (va_up (va_up (v 1) (15 + 17 * r + 12) (v 1 (15 + 17 * r + 7))) (15 + 17 * r + 13) (v 1 (15 + 17 * r + 8))) (15 + 17 * r + 14) (v 1 (15 + 17 * r + 9))) (15 + 17 * r + 15) (v 1 (15 + 17 * r + 10))) (15 + 17 * r + 16) (v 1 (15 + 17 * r + 11))) (15 + 17 * r + 6) 1) (15 + 17 * r + 1) 4294967295) (15 + 17 * r + 3) 0) (15 + 17 * r + 5) ((v 1 (15 + 17 * r + 5)) + 1))) hx hb hK hP hD hS 1 0 rfl rfl (Nat.le_of_ble_eq_true rfl) (Nat.le_of_ble_eq_true rfl) dX5_looks_203 (fun H locs hP hD hS => ?_)
          have hP : va_P D vwCl (wM q cI (va_up v 1 (va_up (va_up (va_up (va_up (va_up (va_up (va_up (va_up (va_up (va_up (v 1) (15 + 17 * r + 12) (v 1 (15 + 17 * r + 7))) (15 + 17 * r + 13) (v 1 (15 + 17 * r + 8))) (15 + 17 * r + 14) (v 1 (15 + 17 * r + 9))) (15 + 17 * r + 15) (v 1 (15 + 17 * r + 10))) (15 + 17 * r + 16) (v 1 (15 + 17 * r + 11))) (15 + 17 * r + 6) 1) (15 + 17 * r + 1) 4294967295) (15 + 17 * r + 3) 0) (15 + 17 * r + 5) ((v 1 (15 + 17 * r + 5)) + 1)) 2 ((v 1 2) + 1)))) H := hP
          have hD : va_D A (wM q cI (va_up v 1 (va_up (va_up (va_up (va_up (va_up (va_up (va_up (va_up (va_up (va_up (v 1) (15 + 17 * r + 12) (v 1 (15 + 17 * r + 7))) (15 + 17 * r + 13) (v 1 (15 + 17 * r + 8))) (15 + 17 * r + 14) (v 1 (15 + 17 * r + 9))) (15 + 17 * r + 15) (v 1 (15 + 17 * r + 10))) (15 + 17 * r + 16) (v 1 (15 + 17 * r + 11))) (15 + 17 * r + 6) 1) (15 + 17 * r + 1) 4294967295) (15 + 17 * r + 3) 0) (15 + 17 * r + 5) ((v 1 (15 + 17 * r + 5)) + 1)) 2 ((v 1 2) + 1)))) := hD
          refine o_bipush (k := 101) hx hb dX5_looks_204 (by decide) ?_
          have w_31 : (wM q cI (va_up v 1 (m_looks (v 1) r))) = (wM q cI (va_up v 1 (va_up (va_up (va_up (va_up (va_up (va_up (va_up (va_up (va_up (va_up (v 1) (15 + 17 * r + 12) (v 1 (15 + 17 * r + 7))) (15 + 17 * r + 13) (v 1 (15 + 17 * r + 8))) (15 + 17 * r + 14) (v 1 (15 + 17 * r + 9))) (15 + 17 * r + 15) (v 1 (15 + 17 * r + 10))) (15 + 17 * r + 16) (v 1 (15 + 17 * r + 11))) (15 + 17 * r + 6) 1) (15 + 17 * r + 1) 4294967295) (15 + 17 * r + 3) 0) (15 + 17 * r + 5) ((v 1 (15 + 17 * r + 5)) + 1)) 2 ((v 1 2) + 1)))) := (by unfold m_looks; rw [if_neg c_2, if_neg (by omega)]; rw [if_pos c_29]; first | done | rfl)
          rw [← w_31] at hP
          exact W.iret (v := nI 101) hx hb hrt (fun t ht hW => ⟨⟨_, (), rfl, (congrArg nI (by unfold m_looksr; (repeat' split) <;> omega)), by show va_P D vwCl _ t.heap; rw [ht]; exact hP⟩, hS.F ht⟩) hS.2.2 dX5_looks_206
      · skip
        refine lv_aload_n hx hb dX5_looks_91 rfl (lv_at hl 2 rfl) ?_
        refine lv_iload_n hx hb dX5_looks_92 rfl (lv_at hl 3 rfl) ?_
        refine o_wv (va_runV (As := [.int (nI r)]) (rest := []) ⟨hx, hb, hml, hown, hts⟩ (k_X5_failsTry l D cI cR cS cL s.heap.size q v r (by show r < 4; first | assumption | omega)) (cwV 1 hts gX5_looks_X5_failsTry rfl rfl rfl (by decide +kernel) ⟨Nat.le_of_ble_eq_true rfl, Nat.le_of_ble_eq_true rfl⟩) (o_v (o_pB hK hN hP hD) (va_recv hK hP (ci := 5) (q0 := 0) rfl rfl)) rfl rfl hl.1 rfl (lv_room (Nat.le_of_ble_eq_true rfl)) dX5_looks_93 ⟨Nat.zero_le _, Nat.zero_le _⟩) hP hD hS hA [0, 1, 2, 3, 4] (by decide) rfl (fun _ => rfl) (fun _ H locs e_32 hP hD hS => ?_)
        have hP : va_P D vwCl (wM q cI (va_up v 1 (m_fail (v 1) r))) H := hP
        have hD : va_D A (wM q cI (va_up v 1 (m_fail (v 1) r))) := hD
        refine o_bipush (k := 100) hx hb dX5_looks_96 (by decide) ?_
        have w_33 : (wM q cI (va_up v 1 (m_looks (v 1) r))) = (wM q cI (va_up v 1 (m_fail (v 1) r))) := (by unfold m_looks; rw [if_neg c_2, if_pos (by omega)]; first | done | rfl)
        rw [← w_33] at hP
        exact W.iret (v := nI 100) hx hb hrt (fun t ht hW => ⟨⟨_, (), rfl, (congrArg nI (by unfold m_looksr; (repeat' split) <;> omega)), by show va_P D vwCl _ t.heap; rw [ht]; exact hP⟩, hS.F ht⟩) hS.2.2 dX5_looks_98
  · skip
    refine lv_aload_n hx hb dX5_looks_22 rfl (lv_at hl 2 rfl) ?_
    refine va_get (D := D) (ci := 5) (v := .ref (q 1)) (C := RX5) (T := TX5) (N := 10) hx hb hts inX5_looks_X5 hown hK hP 0 rfl rfl 0 (by decide) (hts (.fieldLink RX5 7 "OddNoticeModel" "now" "[I") (List.mem_of_getElem? (i := 1) (by decide +kernel))) (fun _ h9 => h9) rfl dX5_looks_23 ?_
    refine lv_iload_n hx hb dX5_looks_26 rfl (lv_at hl 1 rfl) ?_
    refine o_bipush (k := 7) hx hb dX5_looks_27 (by decide) ?_
    refine o_iadd (a := (15 + 17 * r)) (b := 7) (k := (15 + 17 * r + 7)) hx hb dX5_looks_29 rfl ?_
    refine lv_iload_n hx hb dX5_looks_30 rfl (lv_at hl 0 rfl) ?_
    refine o_iadd (a := (15 + 17 * r + 7)) (b := (v 1 (15 + 17 * r + 2))) (k := (15 + 17 * r + 7 + (v 1 (15 + 17 * r + 2)))) hx hb dX5_looks_31 rfl ?_
    refine lv_aload_n hx hb dX5_looks_32 rfl (lv_at hl 2 rfl) ?_
    refine va_get (D := D) (ci := 5) (v := .ref (q 1)) (C := RX5) (T := TX5) (N := 10) hx hb hts inX5_looks_X5 hown hK hP 0 rfl rfl 0 (by decide) (hts (.fieldLink RX5 7 "OddNoticeModel" "now" "[I") (List.mem_of_getElem? (i := 1) (by decide +kernel))) (fun _ h9 => h9) rfl dX5_looks_33 ?_
    refine o_bipush (k := 7) hx hb dX5_looks_36 (by decide) ?_
    refine lv_iload_n hx hb dX5_looks_38 rfl (lv_at hl 0 rfl) ?_
    refine o_iadd (a := 7) (b := (v 1 (15 + 17 * r + 2))) (k := (7 + (v 1 (15 + 17 * r + 2)))) hx hb dX5_looks_39 rfl ?_
    refine o_iald (v := nI (v 1 (7 + (v 1 (15 + 17 * r + 2))))) hx hb hK hP 1 0 rfl rfl (by omega) (Nat.le_of_ble_eq_true rfl) rfl dX5_looks_40 ?_
    have f_34 := hw (7 + (v 1 (15 + 17 * r + 2)))
    refine o_iast (g := (v 1)) hx hb hK hP hD hS 1 0 rfl rfl (by omega) (Nat.le_of_ble_eq_true rfl) dX5_looks_41 (fun H locs hP hD hS => ?_)
    have hP : va_P D vwCl (wM q cI (va_up v 1 (va_up (v 1) (15 + 17 * r + 7 + (v 1 (15 + 17 * r + 2))) (v 1 (7 + (v 1 (15 + 17 * r + 2))))))) H := hP
    have hD : va_D A (wM q cI (va_up v 1 (va_up (v 1) (15 + 17 * r + 7 + (v 1 (15 + 17 * r + 2))) (v 1 (7 + (v 1 (15 + 17 * r + 2))))))) := hD
    refine lv_aload_n hx hb dX5_looks_42 rfl (lv_at hl 2 rfl) ?_
    refine va_get (D := D) (ci := 5) (v := .ref (q 1)) (C := RX5) (T := TX5) (N := 10) hx hb hts inX5_looks_X5 hown hK hP 0 rfl rfl 0 (by decide) (hts (.fieldLink RX5 7 "OddNoticeModel" "now" "[I") (List.mem_of_getElem? (i := 1) (by decide +kernel))) (fun _ h9 => h9) rfl dX5_looks_43 ?_
    refine lv_iload_n hx hb dX5_looks_46 rfl (lv_at hl 1 rfl) ?_
    refine o_const (k := 2) hx hb dX5_looks_47 (by decide) ?_
    refine o_iadd (a := (15 + 17 * r)) (b := 2) (k := (15 + 17 * r + 2)) hx hb dX5_looks_48 rfl ?_
    refine lv_dup2_11 hx hb dX5_looks_49 rfl rfl ?_
    refine o_iald (v := nI (v 1 (15 + 17 * r + 2))) hx hb hK hP 1 0 rfl rfl (by omega) (Nat.le_of_ble_eq_true rfl) (congrArg nI (show (va_up (v 1) (15 + 17 * r + 7 + (v 1 (15 + 17 * r + 2))) (v 1 (7 + (v 1 (15 + 17 * r + 2))))) (15 + 17 * r + 2) = (v 1 (15 + 17 * r + 2)) from (o_un (by omega)))) dX5_looks_50 ?_
    refine o_const (k := 1) hx hb dX5_looks_51 (by decide) ?_
    refine o_iadd (a := (v 1 (15 + 17 * r + 2))) (b := 1) (k := ((v 1 (15 + 17 * r + 2)) + 1)) hx hb dX5_looks_52 rfl ?_
    refine o_iast (g := (va_up (v 1) (15 + 17 * r + 7 + (v 1 (15 + 17 * r + 2))) (v 1 (7 + (v 1 (15 + 17 * r + 2)))))) hx hb hK hP hD hS 1 0 rfl rfl (by omega) (Nat.le_of_ble_eq_true rfl) dX5_looks_53 (fun H locs hP hD hS => ?_)
    have hP : va_P D vwCl (wM q cI (va_up v 1 (va_up (va_up (v 1) (15 + 17 * r + 7 + (v 1 (15 + 17 * r + 2))) (v 1 (7 + (v 1 (15 + 17 * r + 2))))) (15 + 17 * r + 2) ((v 1 (15 + 17 * r + 2)) + 1)))) H := hP
    have hD : va_D A (wM q cI (va_up v 1 (va_up (va_up (v 1) (15 + 17 * r + 7 + (v 1 (15 + 17 * r + 2))) (v 1 (7 + (v 1 (15 + 17 * r + 2))))) (15 + 17 * r + 2) ((v 1 (15 + 17 * r + 2)) + 1)))) := hD
    refine lv_aload_n hx hb dX5_looks_54 rfl (lv_at hl 2 rfl) ?_
    refine va_get (D := D) (ci := 5) (v := .ref (q 1)) (C := RX5) (T := TX5) (N := 10) hx hb hts inX5_looks_X5 hown hK hP 0 rfl rfl 0 (by decide) (hts (.fieldLink RX5 7 "OddNoticeModel" "now" "[I") (List.mem_of_getElem? (i := 1) (by decide +kernel))) (fun _ h9 => h9) rfl dX5_looks_55 ?_
    refine o_bipush (k := 7) hx hb dX5_looks_58 (by decide) ?_
    refine lv_iload_n hx hb dX5_looks_60 rfl (lv_at hl 0 rfl) ?_
    refine o_iadd (a := 7) (b := (v 1 (15 + 17 * r + 2))) (k := (7 + (v 1 (15 + 17 * r + 2)))) hx hb dX5_looks_61 rfl ?_
    refine o_iald (v := nI (v 1 (7 + (v 1 (15 + 17 * r + 2))))) hx hb hK hP 1 0 rfl rfl (by omega) (Nat.le_of_ble_eq_true rfl) (congrArg nI (show (va_up (va_up (v 1) (15 + 17 * r + 7 + (v 1 (15 + 17 * r + 2))) (v 1 (7 + (v 1 (15 + 17 * r + 2))))) (15 + 17 * r + 2) ((v 1 (15 + 17 * r + 2)) + 1)) (7 + (v 1 (15 + 17 * r + 2))) = (v 1 (7 + (v 1 (15 + 17 * r + 2)))) from (Eq.trans (o_un (by omega)) (o_un (by omega))))) dX5_looks_62 ?_
    have w_35 : (wM q cI (va_up v 1 (m_looks (v 1) r))) = (wM q cI (va_up v 1 (va_up (va_up (v 1) (15 + 17 * r + 7 + (v 1 (15 + 17 * r + 2))) (v 1 (7 + (v 1 (15 + 17 * r + 2))))) (15 + 17 * r + 2) ((v 1 (15 + 17 * r + 2)) + 1)))) := (by unfold m_looks m_take; rw [if_pos c_2]; first | done | rfl)
    rw [← w_35] at hP
    exact W.iret (v := nI (v 1 (7 + (v 1 (15 + 17 * r + 2))))) hx hb hrt (fun t ht hW => ⟨⟨_, (), rfl, (congrArg nI (by unfold m_looksr; (repeat' split) <;> omega)), by show va_P D vwCl _ t.heap; rw [ht]; exact hP⟩, hS.F ht⟩) hS.2.2 dX5_looks_63
