set_option maxHeartbeats 4000000 in
set_option maxRecDepth 100000 in
theorem k_X4_digest (l : Launch) (D : va_G) (cI cR cS cL : ClassId) (sz : Nat) (o : Nat → Nat) (x : Nat → Nat → Nat) (v : Nat → Nat → Nat) (tl : va_W) (b : Nat) (n : Nat) (hSI : s_I b v) (hb : b < 2 ^ 28) (h0 : x 0 0 ≤ 60) (ht : ∀ k, x 1 k < 2 ^ 31) (hn : c_share v = UInt64.ofNat n) (hr : n = 0 ∨ (4503599627370496 ≤ n ∧ n ≤ 4607182418800017408)) : Met l yX4_digest wsX4_digest ({ frames := 5, cells := 0, slots := 0, locals := 114 }) (va_Pc [.ref (o 0)] (o_B D (o_T cI cR cS cL) (wO o cI cR cS x v tl) sz)) (va_Ql (fun rz (_ : Unit) => rz = (c_dig x v)) (fun (_ : Unit) t => va_P D vwCl (wO o cI cR cS (va_up x 2 (c_wts v (x 2) 4)) v tl) t.heap) (va_A (wO o cI cR cS x v tl) sz)) 0 0 (va_A (wO o cI cR cS x v tl) sz) := by
  refine Met.ofW (cc := cX4_digest) (maxL := 4) (ret := (some .long)) (by decide) rfl ?_
  intro p e s m args below meth cd s₁ B hml hv
  obtain ⟨rfl, hsz, hP, hK, hD0, hN⟩ := hv
  have hx := B.exec
  have hb := B.bytes
  have hrt := B.returns
  have hts := atoms_spec (ws := wsX4_digest) B.pre
  have hown : s.vm.findClass RX4 = some m.cls := findClass_of_methodNamed B.named
  have hlocks := B.notSynchronized
  subst hsz
  have hD := hD0.self (sz := s.heap.size)
  generalize hAe : va_A (wO o cI cR cS x v tl) s.heap.size = A at hD ⊢
  have hA : ∀ q : Nat, s.heap.size ≤ q → A q := fun q h => by rw [← hAe]; exact Or.inr h
  have hS : va_S A s.heap s.heap [] := va_S.rf
  have hl := lv_entry ([.ref (o 0)]) (n := 4) (Nat.le_of_ble_eq_true rfl)
  rw [lg_entry_eq]
  generalize (lg_sl ([.ref (o 0)]) ++ List.replicate (4 - (lg_sl ([.ref (o 0)])).length) Slot.unset).toArray = ls at hl ⊢
  have hl : lv_has ls 4 [(0, .ref (o 0))] := hl
  refine lv_aload_n hx hb dX4_digest_0 rfl (lv_at hl 0 rfl) ?_
  refine lv_ldc2 (v := (3359)) hx hb hown (hts (.constantLong RX4 248 (3359)) (List.mem_of_getElem? (i := 1) (by decide +kernel))) dX4_digest_1 ?_
  refine o_rl (va_runV (As := [.long (3359)]) (rest := []) ⟨hx, hb, hml, hown, hts⟩ (k_X4_hashCountsAndFields l D cI cR cS cL o x v tl b (3359) (by show s_I b v; first | assumption | omega) (by show b < 2 ^ 28; first | assumption | omega)) (cwV 1 hts gX4_digest_X4_hashCountsAndFields rfl rfl rfl (by decide +kernel) ⟨Nat.le_of_ble_eq_true rfl, Nat.le_of_ble_eq_true rfl⟩) (o_v (o_pR hK hN hP) (va_recv hK hP (ci := 4) (q0 := 0) rfl rfl)) rfl rfl hl.1 rfl (lv_room (Nat.le_of_ble_eq_true rfl)) dX4_digest_4 ⟨Nat.zero_le _, Nat.zero_le _⟩) (fun r_2 e_1 => ?_)
  have e_1 : r_2 = (c_h1 v (x 0 4) (3359)) := e_1
  subst e_1
  refine lv_lstore_n (lv' := [(1, .long (c_h1 v (x 0 4) (3359))), (0, .ref (o 0))]) hx hb dX4_digest_7 rfl hl (by decide) rfl (fun ls hl => ?_)
  refine lv_aload_n hx hb dX4_digest_8 rfl (lv_at hl 1 rfl) ?_
  refine lv_lload_n hx hb dX4_digest_9 rfl (lv_at hl 0 rfl) ?_
  refine o_rl (va_runV (As := [.long (c_h1 v (x 0 4) (3359))]) (rest := []) ⟨hx, hb, hml, hown, hts⟩ (k_X4_hashClerks l D cI cR cS cL o x v tl b (c_h1 v (x 0 4) (3359)) (by show s_I b v; first | assumption | omega) (by show b < 2 ^ 28; first | assumption | omega)) (cwV 1 hts gX4_digest_X4_hashClerks rfl rfl rfl (by decide +kernel) ⟨Nat.le_of_ble_eq_true rfl, Nat.le_of_ble_eq_true rfl⟩) (o_v (o_pR hK hN hP) (va_recv hK hP (ci := 4) (q0 := 0) rfl rfl)) rfl rfl hl.1 rfl (lv_room (Nat.le_of_ble_eq_true rfl)) dX4_digest_10 ⟨Nat.zero_le _, Nat.zero_le _⟩) (fun r_4 e_3 => ?_)
  have e_3 : r_4 = (c_h2 v (c_h1 v (x 0 4) (3359))) := e_3
  subst e_3
  refine lv_lstore_n (lv' := [(1, .long (c_h2 v (c_h1 v (x 0 4) (3359)))), (0, .ref (o 0))]) hx hb dX4_digest_13 rfl hl (by decide) rfl (fun ls hl => ?_)
  refine o_const (k := 0) hx hb dX4_digest_14 (by decide) ?_
  refine lv_istore_n (lv' := [(3, .int (nI 0)), (1, .long (c_h2 v (c_h1 v (x 0 4) (3359)))), (0, .ref (o 0))]) hx hb dX4_digest_15 rfl hl (by decide) rfl (fun ls hl => ?_)
  have lp_1 : ∀ (fu : Nat) (j : Nat), j ≤ 4 → 4 - j < fu → ∀ (H : Heap) (locs : List Loc) (hP : va_P D vwCl (wO o cI cR cS (va_up x 2 (c_wts v (x 2) j)) v tl) H) (hD : va_D A (wO o cI cR cS (va_up x 2 (c_wts v (x 2) j)) v tl)) (hS : va_S A s.heap H locs) (ls : Array Slot) (hl : lv_has ls 4 [(3, .int (nI j)), (1, .long (o_folh (c_h3 v) (c_h2 v (c_h1 v (x 0 4) 3359)) j)), (0, .ref (o 0))]), W p l e (headSpec wsX4_digest ({ frames := 5, cells := 0, slots := 0, locals := 114 })).room s m ([.ref (o 0)] : List Value).toArray below meth cd H locs 0 0 (MQ below (va_Ql (fun rz (_ : Unit) => rz = (c_dig x v)) (fun (_ : Unit) t => va_P D vwCl (wO o cI cR cS (va_up x 2 (c_wts v (x 2) 4)) v tl) t.heap) A) ([.ref (o 0)] : List Value).toArray s 0 0 A) (F0 m 16 ls []) := by
    intro fu
    induction fu with
    | zero => intro j hj hm; exact absurd hm (Nat.not_lt_zero _)
    | succ fu ih_1 =>
      intro j hj hm_1 H locs hP hD hS ls hl
      refine lv_iload_n hx hb dX4_digest_16 rfl (lv_at hl 0 rfl) ?_
      refine o_const (k := 4) hx hb dX4_digest_17 (by decide) ?_
      refine o_icmp_ge (tgt := 34) hx hb dX4_digest_18 (by decide) (by omega) (Nat.le_of_ble_eq_true rfl) (fun c_5 => ?_) (fun c_5 => ?_)
      · skip
        refine lv_aload_n hx hb dX4_digest_34 rfl (lv_at hl 2 rfl) ?_
        refine lv_lload_n hx hb dX4_digest_35 rfl (lv_at hl 1 rfl) ?_
        refine o_rl (va_runV (As := [.long (o_folh (c_h3 v) (c_h2 v (c_h1 v (x 0 4) 3359)) j)]) (rest := []) ⟨hx, hb, hml, hown, hts⟩ (k_X4_hashNotices l D cI cR cS cL o (va_up x 2 (c_wts v (x 2) j)) v tl b (o_folh (c_h3 v) (c_h2 v (c_h1 v (x 0 4) 3359)) j) (by show s_I b v; first | assumption | omega) (by show b < 2 ^ 28; first | assumption | omega)) (cwV 1 hts gX4_digest_X4_hashNotices rfl rfl rfl (by decide +kernel) ⟨Nat.le_of_ble_eq_true rfl, Nat.le_of_ble_eq_true rfl⟩) (o_v (o_pR hK hN hP) (va_recv hK hP (ci := 4) (q0 := 0) rfl rfl)) rfl rfl hl.1 rfl (lv_room (Nat.le_of_ble_eq_true rfl)) dX4_digest_36 ⟨Nat.zero_le _, Nat.zero_le _⟩) (fun r_7 e_6 => ?_)
        have e_6 : r_7 = (c_h4 v (o_folh (c_h3 v) (c_h2 v (c_h1 v (x 0 4) 3359)) j)) := e_6
        subst e_6
        refine lv_lstore_n (lv' := [(1, .long (c_h4 v (o_folh (c_h3 v) (c_h2 v (c_h1 v (x 0 4) 3359)) j))), (3, .int (nI j)), (0, .ref (o 0))]) hx hb dX4_digest_39 rfl hl (by decide) rfl (fun ls hl => ?_)
        refine lv_lload_n hx hb dX4_digest_40 rfl (lv_at hl 0 rfl) ?_
        refine lv_aload_n hx hb dX4_digest_41 rfl (lv_at hl 2 rfl) ?_
        refine o_ri (va_runV (As := []) (rest := [.long (c_h4 v (o_folh (c_h3 v) (c_h2 v (c_h1 v (x 0 4) 3359)) j))]) ⟨hx, hb, hml, hown, hts⟩ (k_X4_busy l D cI cR cS cL o (va_up x 2 (c_wts v (x 2) j)) v tl b (by show s_I b v; first | assumption | omega) (by show b < 2 ^ 28; first | assumption | omega)) (cwV 0 hts gX4_digest_X4_busy rfl rfl rfl (by decide +kernel) ⟨Nat.le_of_ble_eq_true rfl, Nat.le_of_ble_eq_true rfl⟩) (o_v (o_pR hK hN hP) (va_recv hK hP (ci := 4) (q0 := 0) rfl rfl)) rfl rfl hl.1 rfl (lv_room (Nat.le_of_ble_eq_true rfl)) dX4_digest_42 ⟨Nat.zero_le _, Nat.zero_le _⟩) (fun r_9 e_8 => ?_)
        have e_8 : r_9 = nI (b_inl (v 3)) := e_8
        subst e_8
        refine lv_i2l (v := (nI (b_inl (v 3))).toInt64) hx hb dX4_digest_45 rfl ?_
        refine o_rl (va_runS (As := [.long (c_h4 v (o_folh (c_h3 v) (c_h2 v (c_h1 v (x 0 4) 3359)) j)), .long ((nI (b_inl (v 3))).toInt64)]) (rest := []) ⟨hx, hb, hml, hown, hts⟩ (k_X4_mix l D cI cR cS cL (c_h4 v (o_folh (c_h3 v) (c_h2 v (c_h1 v (x 0 4) 3359)) j)) ((nI (b_inl (v 3))).toInt64) ) (va_cwS 2 hts gX4_digest_X4_mix rfl rfl rfl (by decide +kernel) ⟨Nat.le_of_ble_eq_true rfl, Nat.le_of_ble_eq_true rfl⟩) (o_pR hK hN (hP.sub (ws' := []) [] rfl)) rfl rfl hl.1 rfl (lv_room (Nat.le_of_ble_eq_true rfl)) dX4_digest_46 ⟨Nat.zero_le _, Nat.zero_le _⟩) (fun r_11 e_10 => ?_)
        have e_10 : r_11 = ((31) * (c_h4 v (o_folh (c_h3 v) (c_h2 v (c_h1 v (x 0 4) 3359)) j)) + ((nI (b_inl (v 3))).toInt64)) := e_10
        subst e_10
        refine lv_lstore_n (lv' := [(1, .long ((31) * (c_h4 v (o_folh (c_h3 v) (c_h2 v (c_h1 v (x 0 4) 3359)) j)) + ((nI (b_inl (v 3))).toInt64))), (3, .int (nI j)), (0, .ref (o 0))]) hx hb dX4_digest_49 rfl hl (by decide) rfl (fun ls hl => ?_)
        refine lv_lload_n hx hb dX4_digest_50 rfl (lv_at hl 0 rfl) ?_
        refine lv_aload_n hx hb dX4_digest_51 rfl (lv_at hl 2 rfl) ?_
        refine o_rd (va_runV (As := []) (rest := [.long ((31) * (c_h4 v (o_folh (c_h3 v) (c_h2 v (c_h1 v (x 0 4) 3359)) j)) + ((nI (b_inl (v 3))).toInt64))]) ⟨hx, hb, hml, hown, hts⟩ (k_X4_wellShare l D cI cR cS cL o (va_up x 2 (c_wts v (x 2) j)) v tl b (by show s_I b v; first | assumption | omega) (by show b < 2 ^ 28; first | assumption | omega)) (cwV 0 hts gX4_digest_X4_wellShare rfl rfl rfl (by decide +kernel) ⟨Nat.le_of_ble_eq_true rfl, Nat.le_of_ble_eq_true rfl⟩) (o_v (o_pR hK hN hP) (va_recv hK hP (ci := 4) (q0 := 0) rfl rfl)) rfl rfl hl.1 rfl (lv_room (Nat.le_of_ble_eq_true rfl)) dX4_digest_52 ⟨Nat.zero_le _, Nat.zero_le _⟩) (fun r_13 e_12 => ?_)
        have e_12 : r_13 = (c_share v) := e_12
        subst e_12
        refine o_rl (va_runS (As := [.double (c_share v)]) (rest := [.long ((31) * (c_h4 v (o_folh (c_h3 v) (c_h2 v (c_h1 v (x 0 4) 3359)) j)) + ((nI (b_inl (v 3))).toInt64))]) ⟨hx, hb, hml, hown, hts⟩ (k_X4_bitsOfShare l D cI cR cS cL (c_share v) n (hn) (hr)) (va_cwS 1 hts gX4_digest_X4_bitsOfShare rfl rfl rfl (by decide +kernel) ⟨Nat.le_of_ble_eq_true rfl, Nat.le_of_ble_eq_true rfl⟩) (o_pR hK hN (hP.sub (ws' := []) [] rfl)) rfl rfl hl.1 rfl (lv_room (Nat.le_of_ble_eq_true rfl)) dX4_digest_55 ⟨Nat.zero_le _, Nat.zero_le _⟩) (fun r_15 e_14 => ?_)
        have e_14 : r_15 = (c_share v).toInt64 := e_14
        subst e_14
        refine o_rl (va_runS (As := [.long ((31) * (c_h4 v (o_folh (c_h3 v) (c_h2 v (c_h1 v (x 0 4) 3359)) j)) + ((nI (b_inl (v 3))).toInt64)), .long ((c_share v).toInt64)]) (rest := []) ⟨hx, hb, hml, hown, hts⟩ (k_X4_mix l D cI cR cS cL ((31) * (c_h4 v (o_folh (c_h3 v) (c_h2 v (c_h1 v (x 0 4) 3359)) j)) + ((nI (b_inl (v 3))).toInt64)) ((c_share v).toInt64) ) (va_cwS 2 hts gX4_digest_X4_mix rfl rfl rfl (by decide +kernel) ⟨Nat.le_of_ble_eq_true rfl, Nat.le_of_ble_eq_true rfl⟩) (o_pR hK hN (hP.sub (ws' := []) [] rfl)) rfl rfl hl.1 rfl (lv_room (Nat.le_of_ble_eq_true rfl)) dX4_digest_58 ⟨Nat.zero_le _, Nat.zero_le _⟩) (fun r_17 e_16 => ?_)
        have e_16 : r_17 = ((31) * ((31) * (c_h4 v (o_folh (c_h3 v) (c_h2 v (c_h1 v (x 0 4) 3359)) j)) + ((nI (b_inl (v 3))).toInt64)) + ((c_share v).toInt64)) := e_16
        subst e_16
        refine lv_lstore_n (lv' := [(1, .long ((31) * ((31) * (c_h4 v (o_folh (c_h3 v) (c_h2 v (c_h1 v (x 0 4) 3359)) j)) + ((nI (b_inl (v 3))).toInt64)) + ((c_share v).toInt64))), (3, .int (nI j)), (0, .ref (o 0))]) hx hb dX4_digest_61 rfl hl (by decide) rfl (fun ls hl => ?_)
        refine lv_aload_n hx hb dX4_digest_62 rfl (lv_at hl 2 rfl) ?_
        refine lv_lload_n hx hb dX4_digest_63 rfl (lv_at hl 0 rfl) ?_
        refine o_rl (va_runV (As := [.long ((31) * ((31) * (c_h4 v (o_folh (c_h3 v) (c_h2 v (c_h1 v (x 0 4) 3359)) j)) + ((nI (b_inl (v 3))).toInt64)) + ((c_share v).toInt64))]) (rest := []) ⟨hx, hb, hml, hown, hts⟩ (k_X4_hashBuffer l D cI cR cS cL o (va_up x 2 (c_wts v (x 2) j)) v tl b ((31) * ((31) * (c_h4 v (o_folh (c_h3 v) (c_h2 v (c_h1 v (x 0 4) 3359)) j)) + ((nI (b_inl (v 3))).toInt64)) + ((c_share v).toInt64)) (by show x 0 0 ≤ 60; first | assumption | omega) (ht)) (cwV 1 hts gX4_digest_X4_hashBuffer rfl rfl rfl (by decide +kernel) ⟨Nat.le_of_ble_eq_true rfl, Nat.le_of_ble_eq_true rfl⟩) (o_v (o_pR hK hN hP) (va_recv hK hP (ci := 4) (q0 := 0) rfl rfl)) rfl rfl hl.1 rfl (lv_room (Nat.le_of_ble_eq_true rfl)) dX4_digest_64 ⟨Nat.zero_le _, Nat.zero_le _⟩) (fun r_19 e_18 => ?_)
        have e_18 : r_19 = (c_h5 (va_up x 2 (c_wts v (x 2) j)) ((31) * ((31) * (c_h4 v (o_folh (c_h3 v) (c_h2 v (c_h1 v (x 0 4) 3359)) j)) + ((nI (b_inl (v 3))).toInt64)) + ((c_share v).toInt64))) := e_18
        subst e_18
        have w_20 : (wO o cI cR cS (va_up x 2 (c_wts v (x 2) 4)) v tl) = (wO o cI cR cS (va_up x 2 (c_wts v (x 2) j)) v tl) := (by rw [show j = 4 by omega])
        rw [← w_20] at hP
        exact W.lret (v := (c_h5 (va_up x 2 (c_wts v (x 2) j)) ((31) * ((31) * (c_h4 v (o_folh (c_h3 v) (c_h2 v (c_h1 v (x 0 4) 3359)) j)) + ((nI (b_inl (v 3))).toInt64)) + ((c_share v).toInt64)))) hx hb hrt (fun t ht hW => ⟨⟨_, (), rfl, (by unfold c_dig c_h5; rw [show j = 4 by omega]; rfl), by show va_P D vwCl _ t.heap; rw [ht]; exact hP⟩, hS.F ht⟩) hS.2.2 dX4_digest_67
      · skip
        refine lv_aload_n hx hb dX4_digest_21 rfl (lv_at hl 2 rfl) ?_
        refine lv_lload_n hx hb dX4_digest_22 rfl (lv_at hl 1 rfl) ?_
        refine lv_iload_n hx hb dX4_digest_23 rfl (lv_at hl 0 rfl) ?_
        refine o_wlA (va_runV (As := [.long (o_folh (c_h3 v) (c_h2 v (c_h1 v (x 0 4) 3359)) j), .int (nI j)]) (rest := []) ⟨hx, hb, hml, hown, hts⟩ (k_X4_hashReader l D cI cR cS cL H.size o (va_up x 2 (c_wts v (x 2) j)) v tl b (o_folh (c_h3 v) (c_h2 v (c_h1 v (x 0 4) 3359)) j) j (by show s_I b v; first | assumption | omega) (by show b < 2 ^ 28; first | assumption | omega) (by show j < 4; first | assumption | omega)) (cwV 2 hts gX4_digest_X4_hashReader rfl rfl rfl (by decide +kernel) ⟨Nat.le_of_ble_eq_true rfl, Nat.le_of_ble_eq_true rfl⟩) (o_v (o_pB hK hN hP hD) (va_recv hK hP (ci := 4) (q0 := 0) rfl rfl)) rfl rfl hl.1 rfl (lv_room (Nat.le_of_ble_eq_true rfl)) dX4_digest_24 ⟨Nat.zero_le _, Nat.zero_le _⟩) hD hS hA (fun _ => rfl) (fun r_22 _ H locs e_21 hP hD hS => ?_)
        have e_21 : r_22 = (c_h3 v j (o_folh (c_h3 v) (c_h2 v (c_h1 v (x 0 4) 3359)) j)) := e_21
        subst e_21
        have hP : va_P D vwCl (wO o cI cR cS (va_up x 2 (c_wtf v j ((c_wts v (x 2) j)))) v tl) H := hP
        have hD : va_D A (wO o cI cR cS (va_up x 2 (c_wtf v j ((c_wts v (x 2) j)))) v tl) := hD
        refine lv_lstore_n (lv' := [(1, .long (c_h3 v j (o_folh (c_h3 v) (c_h2 v (c_h1 v (x 0 4) 3359)) j))), (3, .int (nI j)), (0, .ref (o 0))]) hx hb dX4_digest_27 rfl hl (by decide) rfl (fun ls hl => ?_)
        refine lv_iinc (v := nI (j + 1)) (lv' := [(3, .int (nI (j + 1))), (1, .long (c_h3 v j (o_folh (c_h3 v) (c_h2 v (c_h1 v (x 0 4) 3359)) j))), (0, .ref (o 0))]) hx hb dX4_digest_28 hl (k := 1) rfl (o_inc1 _) (by decide) rfl (fun ls hl => ?_)
        refine lv_goto (tgt := 16) hx hb dX4_digest_31 (by decide) ?_
        have q_23 : ((c_h3 v j (o_folh (c_h3 v) (c_h2 v (c_h1 v (x 0 4) 3359)) j)) : Int64) = (o_folh (c_h3 v) (c_h2 v (c_h1 v (x 0 4) 3359)) (j + 1)) := by rfl
        have hl := o_lvset hl 1 rfl (congrArg Value.long q_23)
        have w_24 : (wO o cI cR cS (va_up x 2 (c_wtf v j ((c_wts v (x 2) j)))) v tl) = (wO o cI cR cS (va_up x 2 (c_wts v (x 2) (j + 1))) v tl) := by rfl
        rw [w_24] at hP hD
        exact ih_1  (j + 1) (by omega) (by omega) _ _ hP hD hS ls (lv_sub hl [0, 1, 2] rfl)
  have q_25 : ((c_h2 v (c_h1 v (x 0 4) (3359))) : Int64) = (o_folh (c_h3 v) (c_h2 v (c_h1 v (x 0 4) 3359)) 0) := by rfl
  have hl := o_lvset hl 1 rfl (congrArg Value.long q_25)
  have w_26 : (wO o cI cR cS x v tl) = (wO o cI cR cS (va_up x 2 (c_wts v (x 2) 0)) v tl) := by exact congrArg (fun z => wO o cI cR cS z v tl) (c_w0 x (x 2) rfl).symm
  rw [w_26] at hP hD
  exact lp_1 _ 0 (Nat.zero_le _) (Nat.lt_succ_self _) _ _ hP hD hS ls (lv_sub hl [0, 1, 2] rfl)
