theorem inX4_doDeeds_X4 : ∀ w ∈ wsX40, w ∈ wsX4_doDeeds := by decide +kernel
theorem inX4_doDeeds_X3 : ∀ w ∈ wsX30, w ∈ wsX4_doDeeds := by decide +kernel
set_option maxHeartbeats 4000000 in
set_option maxRecDepth 100000 in
theorem k_X4_doDeeds (l : Launch) (D : va_G) (cI cR cS cL : ClassId) (sz : Nat) (o : Nat → Nat) (x : Nat → Nat → Nat) (v : Nat → Nat → Nat) (tl : va_W) (b : Nat) (hSI : s_I b v) (hb : b < 2 ^ 27) (h0 : x 0 0 ≤ 60) (ht : ∀ k, x 1 k < 2 ^ 31) (hgd : ∀ i, i < x 0 0 → 97 ≤ t_code x i → c_sh (t_code x i) (t_dig x (i + 1))) : Met l yX4_doDeeds wsX4_doDeeds ({ frames := 5, cells := 0, slots := 0, locals := 110 }) (va_Pc [.ref (o 0)] (o_B D (o_T cI cR cS cL) (wO o cI cR cS x v tl) sz)) (va_Qi (fun rz (_ : Unit) => rz = nI ((c_run x 61 0 0 v).2)) (fun (_ : Unit) t => va_P D vwCl (wO o cI cR cS x (c_run x 61 0 0 v).1 tl) t.heap) (va_A (wO o cI cR cS x v tl) sz)) 0 0 (va_A (wO o cI cR cS x v tl) sz) := by
  refine Met.ofW (cc := cX4_doDeeds) (maxL := 3) (ret := (some .int)) (by decide) rfl ?_
  intro p e s m args below meth cd s₁ B hml hv
  obtain ⟨rfl, hsz, hP, hK, hD0, hN⟩ := hv
  have hx := B.exec
  have hb := B.bytes
  have hrt := B.returns
  have hts := atoms_spec (ws := wsX4_doDeeds) B.pre
  have hown : s.vm.findClass RX4 = some m.cls := findClass_of_methodNamed B.named
  have hlocks := B.notSynchronized
  subst hsz
  have hD := hD0.self (sz := s.heap.size)
  generalize hAe : va_A (wO o cI cR cS x v tl) s.heap.size = A at hD ⊢
  have hA : ∀ q : Nat, s.heap.size ≤ q → A q := fun q h => by rw [← hAe]; exact Or.inr h
  have hS : va_S A s.heap s.heap [] := va_S.rf
  have hl := lv_entry ([.ref (o 0)]) (n := 3) (Nat.le_of_ble_eq_true rfl)
  rw [lg_entry_eq]
  generalize (lg_sl ([.ref (o 0)]) ++ List.replicate (3 - (lg_sl ([.ref (o 0)])).length) Slot.unset).toArray = ls at hl ⊢
  have hl : lv_has ls 3 [(0, .ref (o 0))] := hl
  refine o_const (k := 0) hx hb dX4_doDeeds_0 (by decide) ?_
  refine lv_istore_n (lv' := [(1, .int (nI 0)), (0, .ref (o 0))]) hx hb dX4_doDeeds_1 rfl hl (by decide) rfl (fun ls hl => ?_)
  refine o_const (k := 0) hx hb dX4_doDeeds_2 (by decide) ?_
  refine lv_istore_n (lv' := [(2, .int (nI 0)), (1, .int (nI 0)), (0, .ref (o 0))]) hx hb dX4_doDeeds_3 rfl hl (by decide) rfl (fun ls hl => ?_)
  have lp_1 : ∀ (fu : Nat) (f : Nat) (i : Nat) (n : Nat) (w : Nat → Nat → Nat), c_run x f i n w = c_run x 61 0 0 v → x 0 0 < i + f → i ≤ x 0 0 → n ≤ i → s_I (b + i) w → f < fu → ∀ (H : Heap) (locs : List Loc) (hP : va_P D vwCl (wO o cI cR cS x w tl) H) (hD : va_D A (wO o cI cR cS x w tl)) (hS : va_S A s.heap H locs) (ls : Array Slot) (hl : lv_has ls 3 [(2, .int (nI i)), (1, .int (nI n)), (0, .ref (o 0))]), W p l e (headSpec wsX4_doDeeds ({ frames := 5, cells := 0, slots := 0, locals := 110 })).room s m ([.ref (o 0)] : List Value).toArray below meth cd H locs 0 0 (MQ below (va_Qi (fun rz (_ : Unit) => rz = nI ((c_run x 61 0 0 v).2)) (fun (_ : Unit) t => va_P D vwCl (wO o cI cR cS x (c_run x 61 0 0 v).1 tl) t.heap) A) ([.ref (o 0)] : List Value).toArray s 0 0 A) (F0 m 4 ls []) := by
    intro fu
    induction fu with
    | zero => intro f i n w hE hf hi hn hw hm; exact absurd hm (Nat.not_lt_zero _)
    | succ fu ih_1 =>
      intro f i n w hE hf hi hn hw hm_1 H locs hP hD hS ls hl
      obtain ⟨g, rfl⟩ : ∃ g, f = g + 1 := ⟨f - 1, by omega⟩
      refine lv_iload_n hx hb dX4_doDeeds_4 rfl (lv_at hl 0 rfl) ?_
      refine lv_aload_n hx hb dX4_doDeeds_5 rfl (lv_at hl 2 rfl) ?_
      refine va_get (D := D) (ci := 4) (v := .ref (o 2)) (C := RX4) (T := TX4) (N := 6) hx hb hts inX4_doDeeds_X4 hown hK hP 0 rfl rfl 4 (by decide) (hts (.fieldLink RX4 23 "OddNotice" "text" "LOddNotice$Text;") (List.mem_of_getElem? (i := 1) (by decide +kernel))) (fun _ h9 => h9) rfl dX4_doDeeds_6 ?_
      refine va_get (D := D) (ci := 3) (v := .int (nI (x 0 0))) (C := RX3) (T := TX3) (N := 4) hx hb hts inX4_doDeeds_X3 hown hK hP 2 rfl rfl 0 (by decide) (hts (.fieldLink RX4 128 "OddNotice$Text" "length" "I") (List.mem_of_getElem? (i := 2) (by decide +kernel))) (fun _ h9 => h9) rfl dX4_doDeeds_9 ?_
      refine o_icmp_ge (tgt := 80) hx hb dX4_doDeeds_12 (by decide) (by omega) (by omega) (fun c_1 => ?_) (fun c_1 => ?_)
      · skip
        refine lv_iload_n hx hb dX4_doDeeds_80 rfl (lv_at hl 1 rfl) ?_
        have w_2 : (wO o cI cR cS x (c_run x 61 0 0 v).1 tl) = (wO o cI cR cS x w tl) := (by rw [← hE, c_run_end (by omega)])
        rw [← w_2] at hP
        exact W.iret (v := nI n) hx hb hrt (fun t ht hW => ⟨⟨_, (), rfl, (congrArg nI (by rw [← hE, c_run_end (by omega)])), by show va_P D vwCl _ t.heap; rw [ht]; exact hP⟩, hS.F ht⟩) hS.2.2 dX4_doDeeds_81
      · skip
        refine lv_aload_n hx hb dX4_doDeeds_15 rfl (lv_at hl 2 rfl) ?_
        refine va_get (D := D) (ci := 4) (v := .ref (o 2)) (C := RX4) (T := TX4) (N := 6) hx hb hts inX4_doDeeds_X4 hown hK hP 0 rfl rfl 4 (by decide) (hts (.fieldLink RX4 23 "OddNotice" "text" "LOddNotice$Text;") (List.mem_of_getElem? (i := 1) (by decide +kernel))) (fun _ h9 => h9) rfl dX4_doDeeds_16 ?_
        refine lv_iload_n hx hb dX4_doDeeds_19 rfl (lv_at hl 0 rfl) ?_
        refine o_ri (va_runV (As := [.int (nI i)]) (rest := []) ⟨hx, hb, hml, hown, hts⟩ (k_X3_isLetter l D cI cR cS cL (fun k => o (k + 2)) x i (by show i < 2 ^ 31; first | assumption | omega) (by show x 0 0 ≤ 60; first | assumption | omega) (by show ∀ k, x 1 k < 2 ^ 31; first | assumption | omega)) (cwV 1 hts gX4_doDeeds_X3_isLetter rfl rfl rfl (by decide +kernel) ⟨Nat.le_of_ble_eq_true rfl, Nat.le_of_ble_eq_true rfl⟩) (o_v (o_pR hK hN (hP.sub (ws' := (wT (fun k => o (k + 2)) cI x)) [2, 3] rfl)) (va_recv hK hP (ci := 3) (q0 := 2) rfl rfl)) rfl rfl hl.1 rfl (lv_room (Nat.le_of_ble_eq_true rfl)) dX4_doDeeds_20 ⟨Nat.zero_le _, Nat.zero_le _⟩) (fun r_4 e_3 => ?_)
        have e_3 : r_4 = nI (bn (97 ≤ t_code x i)) := e_3
        subst e_3
        refine o_ifz (tgt := 74) hx hb dX4_doDeeds_23 (by decide) (fun c_5 => ?_) (fun c_5 => ?_)
        · skip
          refine lv_iinc (v := nI (i + 1)) (lv' := [(2, .int (nI (i + 1))), (1, .int (nI n)), (0, .ref (o 0))]) hx hb dX4_doDeeds_74 hl (k := 0) rfl (o_inc1 _) (by decide) rfl (fun ls hl => ?_)
          refine lv_goto (tgt := 4) hx hb dX4_doDeeds_77 (by decide) ?_
          exact ih_1  g (i + 1) n w (by rw [← hE]; first | rw [c_run_on (by omega) (by assumption)] | rw [c_run_yes (by omega) (by assumption) (by assumption)]) (by omega) (by omega) (by omega) (by first | exact s_I_up hw (by omega) | exact s_do_I hw (hgd i (by omega) (by assumption))) (by omega) _ _ hP hD hS ls (lv_sub hl [0, 1, 2] rfl)
        · skip
          refine lv_aload_n hx hb dX4_doDeeds_26 rfl (lv_at hl 2 rfl) ?_
          refine va_get (D := D) (ci := 4) (v := .ref (o 5)) (C := RX4) (T := TX4) (N := 6) hx hb hts inX4_doDeeds_X4 hown hK hP 0 rfl rfl 0 (by decide) (hts (.fieldLink RX4 10 "OddNotice" "now" "LOddNotice$State;") (List.mem_of_getElem? (i := 3) (by decide +kernel))) (fun _ h9 => h9) rfl dX4_doDeeds_27 ?_
          refine lv_aload_n hx hb dX4_doDeeds_30 rfl (lv_at hl 2 rfl) ?_
          refine va_get (D := D) (ci := 4) (v := .ref (o 2)) (C := RX4) (T := TX4) (N := 6) hx hb hts inX4_doDeeds_X4 hown hK hP 0 rfl rfl 4 (by decide) (hts (.fieldLink RX4 23 "OddNotice" "text" "LOddNotice$Text;") (List.mem_of_getElem? (i := 1) (by decide +kernel))) (fun _ h9 => h9) rfl dX4_doDeeds_31 ?_
          refine lv_iload_n hx hb dX4_doDeeds_34 rfl (lv_at hl 0 rfl) ?_
          refine o_ri (va_runV (As := [.int (nI i)]) (rest := [.ref (o 5)]) ⟨hx, hb, hml, hown, hts⟩ (k_X3_codeAt l D cI cR cS cL (fun k => o (k + 2)) x i (by show i < 2 ^ 31; first | assumption | omega) (by show x 0 0 ≤ 60; first | assumption | omega) (by show ∀ k, x 1 k < 2 ^ 31; first | assumption | omega)) (cwV 1 hts gX4_doDeeds_X3_codeAt rfl rfl rfl (by decide +kernel) ⟨Nat.le_of_ble_eq_true rfl, Nat.le_of_ble_eq_true rfl⟩) (o_v (o_pR hK hN (hP.sub (ws' := (wT (fun k => o (k + 2)) cI x)) [2, 3] rfl)) (va_recv hK hP (ci := 3) (q0 := 2) rfl rfl)) rfl rfl hl.1 rfl (lv_room (Nat.le_of_ble_eq_true rfl)) dX4_doDeeds_35 ⟨Nat.zero_le _, Nat.zero_le _⟩) (fun r_7 e_6 => ?_)
          have e_6 : r_7 = nI (t_code x i) := e_6
          subst e_6
          have gv_8 := (t_code_lt (by assumption) i : t_code x i < 2 ^ 31)
          refine lv_aload_n hx hb dX4_doDeeds_38 rfl (lv_at hl 2 rfl) ?_
          refine va_get (D := D) (ci := 4) (v := .ref (o 2)) (C := RX4) (T := TX4) (N := 6) hx hb hts inX4_doDeeds_X4 hown hK hP 0 rfl rfl 4 (by decide) (hts (.fieldLink RX4 23 "OddNotice" "text" "LOddNotice$Text;") (List.mem_of_getElem? (i := 1) (by decide +kernel))) (fun _ h9 => h9) rfl dX4_doDeeds_39 ?_
          refine lv_iload_n hx hb dX4_doDeeds_42 rfl (lv_at hl 0 rfl) ?_
          refine o_const (k := 1) hx hb dX4_doDeeds_43 (by decide) ?_
          refine o_iadd (a := i) (b := 1) (k := (i + 1)) hx hb dX4_doDeeds_44 rfl ?_
          refine o_ri (va_runV (As := [.int (nI (i + 1))]) (rest := [.int (nI (t_code x i)), .ref (o 5)]) ⟨hx, hb, hml, hown, hts⟩ (k_X3_digitAt l D cI cR cS cL (fun k => o (k + 2)) x (i + 1) (by show (i + 1) < 2 ^ 31; first | assumption | omega) (by show x 0 0 ≤ 60; first | assumption | omega) (by show ∀ k, x 1 k < 2 ^ 31; first | assumption | omega)) (cwV 1 hts gX4_doDeeds_X3_digitAt rfl rfl rfl (by decide +kernel) ⟨Nat.le_of_ble_eq_true rfl, Nat.le_of_ble_eq_true rfl⟩) (o_v (o_pR hK hN (hP.sub (ws' := (wT (fun k => o (k + 2)) cI x)) [2, 3] rfl)) (va_recv hK hP (ci := 3) (q0 := 2) rfl rfl)) rfl rfl hl.1 rfl (lv_room (Nat.le_of_ble_eq_true rfl)) dX4_doDeeds_45 ⟨Nat.zero_le _, Nat.zero_le _⟩) (fun r_10 e_9 => ?_)
          have e_9 : r_10 = nI (t_dig x (i + 1)) := e_9
          subst e_9
          have gv_11 := t_dig_lt x (i + 1)
          refine o_ri (va_runV (As := [.int (nI (t_code x i)), .int (nI (t_dig x (i + 1)))]) (rest := []) ⟨hx, hb, hml, hown, hts⟩ (k_X2_isPossible l D cI cR cS cL (fun k => o (k + 5)) w (b + i) (t_code x i) (t_dig x (i + 1)) (hw) (by show (b + i) < 2 ^ 28; first | assumption | omega) (hgd i (by omega) (by assumption))) (cwV 2 hts gX4_doDeeds_X2_isPossible rfl rfl rfl (by decide +kernel) ⟨Nat.le_of_ble_eq_true rfl, Nat.le_of_ble_eq_true rfl⟩) (o_v (o_pR hK hN (hP.sub (ws' := (wS (fun k => o (k + 5)) cI cR w)) [5, 6, 7, 8, 9, 10, 11, 12, 13, 14, 15, 16, 17, 18, 19, 20, 21, 22, 23] rfl)) (va_recv hK hP (ci := 2) (q0 := 5) rfl rfl)) rfl rfl hl.1 rfl (lv_room (Nat.le_of_ble_eq_true rfl)) dX4_doDeeds_48 ⟨Nat.zero_le _, Nat.zero_le _⟩) (fun r_13 e_12 => ?_)
          have e_12 : r_13 = nI (bn (s_ok w (t_code x i) (t_dig x (i + 1)))) := e_12
          subst e_12
          refine o_ifnz (tgt := 56) hx hb dX4_doDeeds_51 (by decide) (fun c_14 => ?_) (fun c_14 => ?_)
          · skip
            refine lv_aload_n hx hb dX4_doDeeds_56 rfl (lv_at hl 2 rfl) ?_
            refine lv_aload_n hx hb dX4_doDeeds_57 rfl (lv_at hl 2 rfl) ?_
            refine va_get (D := D) (ci := 4) (v := .ref (o 2)) (C := RX4) (T := TX4) (N := 6) hx hb hts inX4_doDeeds_X4 hown hK hP 0 rfl rfl 4 (by decide) (hts (.fieldLink RX4 23 "OddNotice" "text" "LOddNotice$Text;") (List.mem_of_getElem? (i := 1) (by decide +kernel))) (fun _ h9 => h9) rfl dX4_doDeeds_58 ?_
            refine lv_iload_n hx hb dX4_doDeeds_61 rfl (lv_at hl 0 rfl) ?_
            refine o_ri (va_runV (As := [.int (nI i)]) (rest := [.ref (o 0)]) ⟨hx, hb, hml, hown, hts⟩ (k_X3_codeAt l D cI cR cS cL (fun k => o (k + 2)) x i (by show i < 2 ^ 31; first | assumption | omega) (by show x 0 0 ≤ 60; first | assumption | omega) (by show ∀ k, x 1 k < 2 ^ 31; first | assumption | omega)) (cwV 1 hts gX4_doDeeds_X3_codeAt rfl rfl rfl (by decide +kernel) ⟨Nat.le_of_ble_eq_true rfl, Nat.le_of_ble_eq_true rfl⟩) (o_v (o_pR hK hN (hP.sub (ws' := (wT (fun k => o (k + 2)) cI x)) [2, 3] rfl)) (va_recv hK hP (ci := 3) (q0 := 2) rfl rfl)) rfl rfl hl.1 rfl (lv_room (Nat.le_of_ble_eq_true rfl)) dX4_doDeeds_62 ⟨Nat.zero_le _, Nat.zero_le _⟩) (fun r_16 e_15 => ?_)
            have e_15 : r_16 = nI (t_code x i) := e_15
            subst e_15
            have gv_17 := (t_code_lt (by assumption) i : t_code x i < 2 ^ 31)
            refine lv_iload_n hx hb dX4_doDeeds_65 rfl (lv_at hl 0 rfl) ?_
            refine o_const (k := 1) hx hb dX4_doDeeds_66 (by decide) ?_
            refine o_iadd (a := i) (b := 1) (k := (i + 1)) hx hb dX4_doDeeds_67 rfl ?_
            refine o_wvA (va_runV (As := [.int (nI (t_code x i)), .int (nI (i + 1))]) (rest := []) ⟨hx, hb, hml, hown, hts⟩ (k_X4_doDeed l D cI cR cS cL H.size o x w tl (b + i) (t_code x i) (t_dig x (i + 1)) (i + 1) (hw) (by show (b + i) < 2 ^ 28; first | assumption | omega) (by show x 0 0 ≤ 60; first | assumption | omega) (by show ∀ k, x 1 k < 2 ^ 31; first | assumption | omega) (by show (i + 1) < 2 ^ 20; first | assumption | omega) (rfl) (hgd i (by omega) (by assumption))) (cwV 2 hts gX4_doDeeds_X4_doDeed rfl rfl rfl (by decide +kernel) ⟨Nat.le_of_ble_eq_true rfl, Nat.le_of_ble_eq_true rfl⟩) (o_v (o_pB hK hN hP hD) (va_recv hK hP (ci := 4) (q0 := 0) rfl rfl)) rfl rfl hl.1 rfl (lv_room (Nat.le_of_ble_eq_true rfl)) dX4_doDeeds_68 ⟨Nat.zero_le _, Nat.zero_le _⟩) hD hS hA (fun _ => rfl) (fun _ H locs e_18 hP hD hS => ?_)
            have hP : va_P D vwCl (wO o cI cR cS x (c_do w (t_code x i) (t_dig x (i + 1)) (10 * t_dig x ((i + 1) + 1) + t_dig x ((i + 1) + 1 + 1))) tl) H := hP
            have hD : va_D A (wO o cI cR cS x (c_do w (t_code x i) (t_dig x (i + 1)) (10 * t_dig x ((i + 1) + 1) + t_dig x ((i + 1) + 1 + 1))) tl) := hD
            refine lv_iinc (v := nI (n + 1)) (lv' := [(1, .int (nI (n + 1))), (2, .int (nI i)), (0, .ref (o 0))]) hx hb dX4_doDeeds_71 hl (k := 1) rfl (o_inc1 _) (by decide) rfl (fun ls hl => ?_)
            refine lv_iinc (v := nI (i + 1)) (lv' := [(2, .int (nI (i + 1))), (1, .int (nI (n + 1))), (0, .ref (o 0))]) hx hb dX4_doDeeds_74 hl (k := 1) rfl (o_inc1 _) (by decide) rfl (fun ls hl => ?_)
            refine lv_goto (tgt := 4) hx hb dX4_doDeeds_77 (by decide) ?_
            have w_19 : (wO o cI cR cS x (c_do w (t_code x i) (t_dig x (i + 1)) (10 * t_dig x ((i + 1) + 1) + t_dig x ((i + 1) + 1 + 1))) tl) = (wO o cI cR cS x (c_do w (t_code x i) (t_dig x (i + 1)) (10 * t_dig x (i + 1 + 1) + t_dig x (i + 1 + 1 + 1))) tl) := by rfl
            rw [w_19] at hP hD
            exact ih_1  g (i + 1) (n + 1) (c_do w (t_code x i) (t_dig x (i + 1)) (10 * t_dig x (i + 1 + 1) + t_dig x (i + 1 + 1 + 1))) (by rw [← hE]; first | rw [c_run_on (by omega) (by assumption)] | rw [c_run_yes (by omega) (by assumption) (by assumption)]) (by omega) (by omega) (by omega) (by first | exact s_I_up hw (by omega) | exact s_do_I hw (hgd i (by omega) (by assumption))) (by omega) _ _ hP hD hS ls (lv_sub hl [0, 1, 2] rfl)
          · skip
            refine lv_iload_n hx hb dX4_doDeeds_54 rfl (lv_at hl 1 rfl) ?_
            have w_20 : (wO o cI cR cS x (c_run x 61 0 0 v).1 tl) = (wO o cI cR cS x w tl) := (by rw [← hE, c_run_no (by omega) c_5 c_14])
            rw [← w_20] at hP
            exact W.iret (v := nI n) hx hb hrt (fun t ht hW => ⟨⟨_, (), rfl, (congrArg nI (by rw [← hE, c_run_no (by omega) c_5 c_14])), by show va_P D vwCl _ t.heap; rw [ht]; exact hP⟩, hS.F ht⟩) hS.2.2 dX4_doDeeds_55
  exact lp_1 _ 61 0 0 v (rfl) (by omega) (Nat.zero_le _) (Nat.zero_le _) (hSI) (Nat.lt_succ_self _) _ _ hP hD hS ls (lv_sub hl [0, 1, 2] rfl)
