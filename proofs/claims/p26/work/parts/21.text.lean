set_option maxHeartbeats 4000000 in
set_option maxRecDepth 100000 in
theorem k_X4_isBelow (l : Launch) (D : va_G) (cI cR cS cL : ClassId) (n : Nat) (b : Nat) (h1 : n < 2 ^ 32) (h2 : b < 2 ^ 31) : Met l yX4_isBelow wsX4_isBelow ({ frames := 0, cells := 0, slots := 0, locals := 0 }) (va_Pc [.int (nI n), .int (nI b)] (o_R D (o_T cI cR cS cL) [])) (vp_Si (fun rz => rz = nI (bn (n < b)))) 0 0 (fun _ => False) := by
  refine Met.ofW (cc := cX4_isBelow) (maxL := 2) (ret := (some .boolean)) (by decide) rfl ?_
  intro p e s m args below meth cd s₁ B hml hv
  obtain ⟨rfl, hP, hK, hN⟩ := hv
  have hx := B.exec
  have hb := B.bytes
  have hrt := B.returns
  have hts := atoms_spec (ws := wsX4_isBelow) B.pre
  have hown : s.vm.findClass RX4 = some m.cls := findClass_of_methodNamed B.named
  have hlocks := B.notSynchronized
  have hl := lv_entry ([.int (nI n), .int (nI b)]) (n := 2) (Nat.le_of_ble_eq_true rfl)
  rw [lg_entry_eq]
  generalize (lg_sl ([.int (nI n), .int (nI b)]) ++ List.replicate (2 - (lg_sl ([.int (nI n), .int (nI b)])).length) Slot.unset).toArray = ls at hl ⊢
  have hl : lv_has ls 2 [(0, .int (nI n)), (1, .int (nI b))] := hl
  refine lv_iload_n hx hb dX4_isBelow_0 rfl (lv_at hl 0 rfl) ?_
  refine o_if_lt_s (tgt := 13) hx hb dX4_isBelow_1 (by decide) (by omega) (fun c_1 => ?_) (fun c_1 => ?_)
  · skip
    refine o_const (k := 0) hx hb dX4_isBelow_13 (by decide) ?_
    exact W.zret (v := nI 0) hx hb hrt rfl (fun t ht hW => ⟨_, rfl, (congrArg nI (Eq.symm (bn_f (by omega)))), ht⟩) (fun _ h => nomatch h) dX4_isBelow_14
  · skip
    refine lv_iload_n hx hb dX4_isBelow_4 rfl (lv_at hl 0 rfl) ?_
    refine lv_iload_n hx hb dX4_isBelow_5 rfl (lv_at hl 1 rfl) ?_
    refine o_icmp_ge (tgt := 13) hx hb dX4_isBelow_6 (by decide) (by omega) (by omega) (fun c_2 => ?_) (fun c_2 => ?_)
    · skip
      refine o_const (k := 0) hx hb dX4_isBelow_13 (by decide) ?_
      exact W.zret (v := nI 0) hx hb hrt rfl (fun t ht hW => ⟨_, rfl, (congrArg nI (Eq.symm (bn_f (by omega)))), ht⟩) (fun _ h => nomatch h) dX4_isBelow_14
    · skip
      refine o_const (k := 1) hx hb dX4_isBelow_9 (by decide) ?_
      refine lv_goto (tgt := 14) hx hb dX4_isBelow_10 (by decide) ?_
      exact W.zret (v := nI 1) hx hb hrt rfl (fun t ht hW => ⟨_, rfl, (congrArg nI (Eq.symm (bn_t (by omega)))), ht⟩) (fun _ h => nomatch h) dX4_isBelow_14
