set_option maxHeartbeats 4000000 in
set_option maxRecDepth 100000 in
theorem k_X4_bitsOfShare (l : Launch) (D : va_G) (cI cR cS cL : ClassId) (sh : UInt64) (n : Nat) (hn : sh = UInt64.ofNat n) (hr : n = 0 ∨ (4503599627370496 ≤ n ∧ n ≤ 4607182418800017408)) : Met l yX4_bitsOfShare wsX4_bitsOfShare ({ frames := 0, cells := 0, slots := 0, locals := 0 }) (va_Pc [.double sh] (o_R D (o_T cI cR cS cL) [])) (vp_Sl (fun rz => rz = sh.toInt64)) 0 0 (fun _ => False) := by
  refine Met.ofW (cc := cX4_bitsOfShare) (maxL := 7) (ret := (some .long)) (by decide) rfl ?_
  intro p e s m args below meth cd s₁ B hml hv
  obtain ⟨rfl, hP, hK, hN⟩ := hv
  have hx := B.exec
  have hb := B.bytes
  have hrt := B.returns
  have hts := atoms_spec (ws := wsX4_bitsOfShare) B.pre
  have hown : s.vm.findClass RX4 = some m.cls := findClass_of_methodNamed B.named
  have hlocks := B.notSynchronized
  have hl := lv_entry ([.double sh]) (n := 7) (Nat.le_of_ble_eq_true rfl)
  rw [lg_entry_eq]
  generalize (lg_sl ([.double sh]) ++ List.replicate (7 - (lg_sl ([.double sh])).length) Slot.unset).toArray = ls at hl ⊢
  have hl : lv_has ls 7 [(0, .double sh)] := hl
  refine lv_dload_n hx hb dX4_bitsOfShare_0 rfl (lv_at hl 0 rfl) ?_
  refine lv_dconst0 hx hb dX4_bitsOfShare_1 ?_
  refine lv_dcmp hx hb dX4_bitsOfShare_2 ?_
  refine lv_if_gt (tgt := 8) hx hb dX4_bitsOfShare_3 (by decide) (fun c_1 => ?_) (fun c_1 => ?_)
  · skip
    have c_1 := ((by rw [hn]; exact f_gt0 (by omega) : 0 < Op.cmpValue (FP.dcmp sh FP.dconst0) .g ↔ ¬ n = 0)).mp c_1
    refine lv_dload_n hx hb dX4_bitsOfShare_8 rfl (lv_at hl 0 rfl) ?_
    refine lv_dstore_n (lv' := [(2, .double sh), (0, .double sh)]) hx hb dX4_bitsOfShare_9 rfl hl (by decide) rfl (fun ls hl => ?_)
    refine lv_ldc2 (v := (1023)) hx hb hown (hts (.constantLong RX4 330 (1023)) (List.mem_of_getElem? (i := 1) (by decide +kernel))) dX4_bitsOfShare_10 ?_
    refine lv_lstore (lv' := [(4, .long (1023)), (2, .double sh), (0, .double sh)]) hx hb dX4_bitsOfShare_13 hl (by decide) rfl (fun ls hl => ?_)
    refine o_const (k := 0) hx hb dX4_bitsOfShare_15 (by decide) ?_
    refine lv_istore (lv' := [(6, .int (nI 0)), (4, .long (1023)), (2, .double sh), (0, .double sh)]) hx hb dX4_bitsOfShare_16 hl (by decide) rfl (fun ls hl => ?_)
    have lp_1 : ∀ (fu : Nat) (j : Nat), n + j * 4503599627370496 < 4611686018427387904 → j ≤ 1022 → 1022 - j < fu → ∀ (ls : Array Slot) (hl : lv_has ls 7 [(6, .int (nI j)), (4, .long (lN (1023 - j))), (2, .double (UInt64.ofNat (n + j * 4503599627370496))), (0, .double sh)]), W p l e (headSpec wsX4_bitsOfShare ({ frames := 0, cells := 0, slots := 0, locals := 0 })).room s m ([.double sh] : List Value).toArray below meth cd s.heap [] 0 0 (MQ below (vp_Sl (fun rz => rz = sh.toInt64)) ([.double sh] : List Value).toArray s 0 0 (fun _ => False)) (F0 m 18 ls []) := by
      intro fu
      induction fu with
      | zero => intro j hj hj2 hm; exact absurd hm (Nat.not_lt_zero _)
      | succ fu ih_1 =>
        intro j hj hj2 hm_1 ls hl
        refine lv_iload hx hb dX4_bitsOfShare_18 (lv_at hl 0 rfl) ?_
        refine o_sipush (k := 1022) hx hb dX4_bitsOfShare_20 (by decide) ?_
        refine o_icmp_ge (tgt := 50) hx hb dX4_bitsOfShare_23 (by decide) (by omega) (Nat.le_of_ble_eq_true rfl) (fun c_2 => ?_) (fun c_2 => ?_)
        · skip
          refine lv_lload hx hb dX4_bitsOfShare_50 (lv_at hl 1 rfl) ?_
          refine o_bipush (k := 52) hx hb dX4_bitsOfShare_52 (by decide) ?_
          refine lv_lshl (v := (lN ((1023 - j) * 2 ^ 52))) hx hb dX4_bitsOfShare_54 (wb_shl _ (k := 52) (by decide)) ?_
          refine lv_dload_n hx hb dX4_bitsOfShare_55 rfl (lv_at hl 2 rfl) ?_
          refine lv_dconst1 hx hb dX4_bitsOfShare_56 ?_
          refine lv_dsub hx hb dX4_bitsOfShare_57 (f_sub_n (by omega) (by omega)) ?_
          refine lv_ldc2d (v := (4841369599423283200)) hx hb hown (hts (.constantDouble RX4 334 (4841369599423283200)) (List.mem_of_getElem? (i := 3) (by decide +kernel))) dX4_bitsOfShare_58 ?_
          refine lv_dmul hx hb dX4_bitsOfShare_61 (f_mul_n (by omega) (by omega)) ?_
          refine lv_d2l hx hb dX4_bitsOfShare_62 ?_
          refine lv_ladd hx hb dX4_bitsOfShare_63 ?_
          exact W.lret (v := ((lN ((1023 - j) * 2 ^ 52)) + (FP.d2l (FP.dmul (FP.dsub (UInt64.ofNat (n + j * 4503599627370496)) FP.dconst1) (4841369599423283200))))) hx hb hrt (fun t ht hW => ⟨_, rfl, (by rw [f_end (by omega) (by omega), lN_add, hn]; exact f_fin (by omega)), ht⟩) (fun _ h => nomatch h) dX4_bitsOfShare_64
        · skip
          refine lv_dload_n hx hb dX4_bitsOfShare_26 rfl (lv_at hl 2 rfl) ?_
          refine lv_dconst1 hx hb dX4_bitsOfShare_27 ?_
          refine lv_dcmp hx hb dX4_bitsOfShare_28 ?_
          refine lv_if_ge (tgt := 50) hx hb dX4_bitsOfShare_29 (by decide) (fun c_3 => ?_) (fun c_3 => ?_)
          · skip
            have c_3 := ((f_ge1 (n := n + j * 4503599627370496) (by omega))).mp c_3
            refine lv_lload hx hb dX4_bitsOfShare_50 (lv_at hl 1 rfl) ?_
            refine o_bipush (k := 52) hx hb dX4_bitsOfShare_52 (by decide) ?_
            refine lv_lshl (v := (lN ((1023 - j) * 2 ^ 52))) hx hb dX4_bitsOfShare_54 (wb_shl _ (k := 52) (by decide)) ?_
            refine lv_dload_n hx hb dX4_bitsOfShare_55 rfl (lv_at hl 2 rfl) ?_
            refine lv_dconst1 hx hb dX4_bitsOfShare_56 ?_
            refine lv_dsub hx hb dX4_bitsOfShare_57 (f_sub_n (by omega) (by omega)) ?_
            refine lv_ldc2d (v := (4841369599423283200)) hx hb hown (hts (.constantDouble RX4 334 (4841369599423283200)) (List.mem_of_getElem? (i := 3) (by decide +kernel))) dX4_bitsOfShare_58 ?_
            refine lv_dmul hx hb dX4_bitsOfShare_61 (f_mul_n (by omega) (by omega)) ?_
            refine lv_d2l hx hb dX4_bitsOfShare_62 ?_
            refine lv_ladd hx hb dX4_bitsOfShare_63 ?_
            exact W.lret (v := ((lN ((1023 - j) * 2 ^ 52)) + (FP.d2l (FP.dmul (FP.dsub (UInt64.ofNat (n + j * 4503599627370496)) FP.dconst1) (4841369599423283200))))) hx hb hrt (fun t ht hW => ⟨_, rfl, (by rw [f_end (by omega) (by omega), lN_add, hn]; exact f_fin (by omega)), ht⟩) (fun _ h => nomatch h) dX4_bitsOfShare_64
          · skip
            have c_3 := Classical.not_not.mp (fun z => c_3 (((f_ge1 (n := n + j * 4503599627370496) (by omega))).mpr z))
            refine lv_dload_n hx hb dX4_bitsOfShare_32 rfl (lv_at hl 2 rfl) ?_
            refine lv_ldc2d (v := (4611686018427387904)) hx hb hown (hts (.constantDouble RX4 332 (4611686018427387904)) (List.mem_of_getElem? (i := 2) (by decide +kernel))) dX4_bitsOfShare_33 ?_
            refine lv_dmul hx hb dX4_bitsOfShare_36 (f_dbl_n (by omega) (by omega)) ?_
            refine lv_dstore_n (lv' := [(2, .double (FP.dmul (UInt64.ofNat (n + j * 4503599627370496)) (4611686018427387904))), (6, .int (nI j)), (4, .long (lN (1023 - j))), (0, .double sh)]) hx hb dX4_bitsOfShare_37 rfl hl (by decide) rfl (fun ls hl => ?_)
            refine lv_lload hx hb dX4_bitsOfShare_38 (lv_at hl 2 rfl) ?_
            refine lv_lconst (v := 1) hx hb dX4_bitsOfShare_40 (by decide) ?_
            refine lv_lsub hx hb dX4_bitsOfShare_41 ?_
            refine lv_lstore (lv' := [(4, .long ((lN (1023 - j)) - 1)), (2, .double (FP.dmul (UInt64.ofNat (n + j * 4503599627370496)) (4611686018427387904))), (6, .int (nI j)), (0, .double sh)]) hx hb dX4_bitsOfShare_42 hl (by decide) rfl (fun ls hl => ?_)
            refine lv_iinc (v := nI (j + 1)) (lv' := [(6, .int (nI (j + 1))), (4, .long ((lN (1023 - j)) - 1)), (2, .double (FP.dmul (UInt64.ofNat (n + j * 4503599627370496)) (4611686018427387904))), (0, .double sh)]) hx hb dX4_bitsOfShare_44 hl (k := 2) rfl (o_inc1 _) (by decide) rfl (fun ls hl => ?_)
            refine lv_goto (tgt := 18) hx hb dX4_bitsOfShare_47 (by decide) ?_
            have q_4 : (((lN (1023 - j)) - 1) : Int64) = (lN (1023 - (j + 1))) := by rw [show (1 : Int64) = lN 1 from rfl, lN_sub (by omega), Nat.sub_sub]
            have hl := o_lvset hl 1 rfl (congrArg Value.long q_4)
            have q_5 : ((FP.dmul (UInt64.ofNat (n + j * 4503599627370496)) (4611686018427387904)) : UInt64) = (UInt64.ofNat (n + (j + 1) * 4503599627370496)) := by rw [f_dbl (by omega) (by omega), Nat.add_mul, Nat.one_mul, Nat.add_assoc]
            have hl := o_lvset hl 2 rfl (congrArg Value.double q_5)
            exact ih_1  (j + 1) (by rw [Nat.add_mul, Nat.one_mul, ← Nat.add_assoc]; exact f_step (by assumption)) (by omega) (by omega) ls (lv_sub hl [0, 1, 2, 3] rfl)
    have q_6 : ((1023) : Int64) = (lN (1023 - 0)) := by rfl
    have hl := o_lvset hl 1 rfl (congrArg Value.long q_6)
    have q_7 : (sh : UInt64) = (UInt64.ofNat (n + 0 * 4503599627370496)) := by rw [hn, Nat.zero_mul, Nat.add_zero]
    have hl := o_lvset hl 2 rfl (congrArg Value.double q_7)
    exact lp_1 _ 0 (by omega) (Nat.zero_le _) (Nat.lt_succ_self _) ls (lv_sub hl [0, 1, 2, 3] rfl)
  · skip
    have c_1 := Classical.not_not.mp (fun z => c_1 (((by rw [hn]; exact f_gt0 (by omega) : 0 < Op.cmpValue (FP.dcmp sh FP.dconst0) .g ↔ ¬ n = 0)).mpr z))
    refine lv_lconst (v := 0) hx hb dX4_bitsOfShare_6 (by decide) ?_
    exact W.lret (v := 0) hx hb hrt (fun t ht hW => ⟨_, rfl, (by rw [hn, show n = 0 by omega]; rfl), ht⟩) (fun _ h => nomatch h) dX4_bitsOfShare_7
