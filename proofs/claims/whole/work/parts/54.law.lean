set_option maxHeartbeats 4000000 in
set_option maxRecDepth 100000 in
theorem z_clerk {p : Program} {l : Launch} {e : Env} {s : State} {m : MethodId} {args : Array Value} {below : List Frame} {meth : Method} {c : Code} {Q : State → Prop} {D : va_G} {cI cR cS cL : ClassId} {sb L : Nat} {xs : Nat → Int32} {q o : Nat → Nat} {a i B cells slots : Nat} {H : Heap} {locs : List Loc} {ls : Array Slot} {x v mv : Nat → Nat → Nat} {V : Nat → Nat → Nat → Nat} {g : Nat → Int64} (C : z_C p l s m args c D cI cR cS cL sb L xs) (h : z_S s D q o cI cR cS cL a g x v mv V B H locs) (hl : lv_has ls 9 (z_L i sb a o q)) (hi : i + 3 ≤ L) (hB : B < 2 ^ 27) (hc : cells + 1 ≤ 601024) (hsl : slots + 6 ≤ 7293034) (K : z_N p l e s m args below meth c Q D cI cR cS cL sb q o a i (B + 60) (cells + 1) (slots + 6)) : W p l e room_1 s m args below meth c H locs cells slots Q (F0 m 870 ls []) := by
  obtain ⟨hx, hb, hml, hown, hts, hK, hfl, hX, hG⟩ := C
  obtain ⟨hP, hD, hS, G⟩ := h
  obtain ⟨hR, hSI, hI, -, -⟩ := id G
  obtain ⟨⟨gx0, gx1, gx2⟩, ⟨gx3, gx4, gx5⟩, hx1, hm3, hVI⟩ := g_x G
  have hN := hG.1
  have hA : ∀ q : Nat, s.heap.size ≤ q → z_A s q := fun _ h => h
  have hB28 : B < 2 ^ 28 := by omega
  have hs6 : mv 0 0 ≤ 6 := by omega
  have h60 : mv 0 1 ≤ 60 := by omega
  obtain ⟨y1, hy1, ey1⟩ := o_of (xs (i + 1))
  obtain ⟨y2, hy2, ey2⟩ := o_of (xs (i + 2))
  by_cases hc1 : y1 < 3
  · skip
    by_cases hc2 : y2 < 3
    · skip
      have ec : (if y1 < 3 then if y2 < 3 then 0 else 2 else 1 : Nat) = 0 := by rw [if_pos hc1, if_pos hc2]
      refine lv_aload_n hx hb dL_law_870 rfl (lv_at hl 2 rfl) ?_
      refine lv_aload_n hx hb dL_law_871 rfl (lv_at hl 1 rfl) ?_
      refine lv_iload hx hb dL_law_872 (lv_at hl 0 rfl) ?_
      refine o_const (k := 1) hx hb dL_law_874 (by decide) ?_
      refine o_iadd (k := i + 1) hx hb dL_law_875 rfl ?_
      refine z_ld (y := y1) hx hb hX hS (show i + 1 < L by omega) ey1 dL_law_876 ?_
      refine lv_aload_n hx hb dL_law_877 rfl (lv_at hl 1 rfl) ?_
      refine lv_iload hx hb dL_law_878 (lv_at hl 0 rfl) ?_
      refine o_const (k := 2) hx hb dL_law_880 (by decide) ?_
      refine o_iadd (k := i + 2) hx hb dL_law_881 rfl ?_
      refine z_ld (y := y2) hx hb hX hS (show i + 2 < L by omega) ey2 dL_law_882 ?_
      refine lv_aload_n hx hb dL_law_883 rfl (lv_at hl 4 rfl) ?_
      refine o_xiT (wM q cI mv) (vx_runSX (As := [.ref (o 0), .int (nI y1), .int (nI y2), .ref a]) (rest := []) ⟨hx, hb, hml, hown, hts⟩ (l_clerk_0 l D cI cR cS cL H.size o x v (wV o cI cR V) B y1 y2 a g (by first | assumption | omega) (by first | assumption | omega) (by first | assumption | omega) (by first | assumption | omega)) (vx_cwSW 4 hts gL_law_L_clerk rfl rfl rfl (by decide +kernel) ⟨Nat.le_of_ble_eq_true rfl, Nat.le_of_ble_eq_true rfl⟩) (o_pF (W := [ol cL a 1 g] ++ (wO o cI cR cS x v (wV o cI cR V))) hK (hG.kept hS) (o_PT (pre := (wM q cI mv)) (ws := [ol cL a 1 g] ++ (wO o cI cR cS x v (wV o cI cR V))) hP) (o_DT (pre := (wM q cI mv)) (ws := [ol cL a 1 g] ++ (wO o cI cR cS x v (wV o cI cR V))) hD) (va_free hD hS hA _ (o_getT (wM q cI mv) ([ol cL a 1 g] ++ (wO o cI cR cS x v (wV o cI cR V)))))) rfl rfl hl.1 rfl (lv_room (Nat.le_of_ble_eq_true rfl)) dL_law_884 ⟨show cells + 0 ≤ 601024 by omega, show slots + 0 ≤ 7293034 by omega⟩) hP hD hS hA (fun _ => rfl) (fun r1 u H locs e1 hP8 hD8 hS => ?_)
      obtain ⟨er1, hu⟩ := e1
      have er1 : r1 = nI 0 := er1
      subst er1
      have hu : u 0 = (nI (c_clk v y1 y2)).toInt64 := hu
      have hP := hP8
      have hD := hD8
      have hP : va_P D vwCl (z_W q o cI cR cS cL a u x v mv V) H := hP
      have hD : va_D (z_A s) (z_W q o cI cR cS cL a u x v mv V) := hD
      refine lv_istore (lv' := [(5, .int (nI 0)), (4, .int (nI i)), (0, .ref sb), (1, .ref (o 0)), (2, .ref (q 0)), (3, .ref a)]) hx hb dL_law_887 hl (by decide) rfl (fun ls hl => ?_)
      refine lv_aload_n hx hb dL_law_889 rfl (lv_at hl 4 rfl) ?_
      refine lv_aload_n hx hb dL_law_890 rfl (lv_at hl 2 rfl) ?_
      refine lv_iload hx hb dL_law_891 (lv_at hl 1 rfl) ?_
      refine o_const (k := 1) hx hb dL_law_893 (by decide) ?_
      refine o_iadd (k := i + 1) hx hb dL_law_894 rfl ?_
      refine z_ld (y := y1) hx hb hX hS (show i + 1 < L by omega) ey1 dL_law_895 ?_
      refine lv_aload_n hx hb dL_law_896 rfl (lv_at hl 2 rfl) ?_
      refine lv_iload hx hb dL_law_897 (lv_at hl 1 rfl) ?_
      refine o_const (k := 2) hx hb dL_law_899 (by decide) ?_
      refine o_iadd (k := i + 2) hx hb dL_law_900 rfl ?_
      refine z_ld (y := y2) hx hb hX hS (show i + 2 < L by omega) ey2 dL_law_901 ?_
      refine o_wi (va_runV (As := [.int (nI y1), .int (nI y2)]) (rest := []) ⟨hx, hb, hml, hown, hts⟩ (k_X5_clerk l D cI cR cS cL H.size q mv B y1 y2 (by first | assumption | omega) (by first | assumption | omega) (by first | assumption | omega) (by first | assumption | omega)) (cwV 2 hts gL_law_X5_clerk rfl rfl rfl (by decide +kernel) ⟨Nat.le_of_ble_eq_true rfl, Nat.le_of_ble_eq_true rfl⟩) (o_v (o_pB hK hN (hP.sub (ws' := (wM q cI mv)) [0, 1, 2, 3, 4] rfl) (hD.sub (ws' := (wM q cI mv)) [0, 1, 2, 3, 4] (by decide +kernel) rfl)) (va_recv hK hP (ci := 5) (q0 := 0) rfl rfl)) rfl rfl hl.1 rfl (lv_room (Nat.le_of_ble_eq_true rfl)) dL_law_902 ⟨show cells + 0 + 0 ≤ 601024 by omega, show slots + 0 + 0 ≤ 7293034 by omega⟩) hP hD hS hA [0, 1, 2, 3, 4] (by decide +kernel) rfl (fun _ => rfl) (fun r2 _ H locs e2 hP hD hS => ?_)
      have hP : va_P D vwCl (z_W q o cI cR cS cL a u x v (va_up mv 0 (va_up (mv 0) 2 (if y1 < 3 then if y2 < 3 then 0 else 2 else 1))) V) H := hP
      have hD : va_D (z_A s) (z_W q o cI cR cS cL a u x v (va_up mv 0 (va_up (mv 0) 2 (if y1 < 3 then if y2 < 3 then 0 else 2 else 1))) V) := hD
      rw [ec] at hP hD
      have e2 : r2 = nI (if y1 < 3 then if y2 < 3 then m_ofc (mv 1) y1 y2 else 0 else 0) := e2
      have er : (if y1 < 3 then if y2 < 3 then m_ofc (mv 1) y1 y2 else 0 else 0) = (c_clk v y1 y2) := by rw [if_pos hc1, if_pos hc2]; exact (p_clk hR hI hc1 hc2).symm
      rw [er] at e2
      subst e2
      refine lv_istore (lv' := [(6, .int (nI (c_clk v y1 y2))), (5, .int (nI 0)), (4, .int (nI i)), (0, .ref sb), (1, .ref (o 0)), (2, .ref (q 0)), (3, .ref a)]) hx hb dL_law_905 hl (by decide) rfl (fun ls hl => ?_)
      refine lv_aload_n hx hb dL_law_907 rfl (lv_at hl 5 rfl) ?_
      refine o_ri (va_runV (As := []) (rest := []) ⟨hx, hb, hml, hown, hts⟩ (k_X5_thrown l D cI cR cS cL q (va_up mv 0 (va_up (mv 0) 2 0))) (cwV 0 hts gL_law_X5_thrown rfl rfl rfl (by decide +kernel) ⟨Nat.le_of_ble_eq_true rfl, Nat.le_of_ble_eq_true rfl⟩) (o_v (o_pR hK hN (hP.sub (ws' := (wM q cI (va_up mv 0 (va_up (mv 0) 2 0)))) [0, 1, 2, 3, 4] rfl)) (va_recv hK hP (ci := 5) (q0 := 0) rfl rfl)) rfl rfl hl.1 rfl (lv_room (Nat.le_of_ble_eq_true rfl)) dL_law_908 ⟨show cells + 0 + 0 ≤ 601024 by omega, show slots + 0 + 0 ≤ 7293034 by omega⟩) (fun r3 e3 => ?_)
      have e3 : r3 = nI 0 := e3.trans (congrArg nI (rfl : _ = 0))
      subst e3
      refine lv_iload hx hb dL_law_911 (lv_at hl 1 rfl) ?_
      refine o_icmp_eq (tgt := 918) hx hb dL_law_913 (by decide) (Nat.le_of_ble_eq_true rfl) (Nat.le_of_ble_eq_true rfl) (fun _ => ?_) (fun z => absurd rfl z)
      refine lv_iload hx hb dL_law_918 (lv_at hl 1 rfl) ?_
      refine o_if_ne (a := 0) (tgt := 935) hx hb dL_law_920 (by decide) (Nat.le_of_ble_eq_true rfl) (fun z => absurd rfl z) (fun _ => ?_)
      refine lv_aload_n hx hb dL_law_923 rfl (lv_at hl 6 rfl) ?_
      refine o_const (k := 0) hx hb dL_law_924 (by decide) ?_
      refine va_lald hx hb hK hP 5 3 rfl rfl (vp_in_nI (by decide) (by decide)) dL_law_925 ?_
      refine o_tl (congrArg u (nI_clamp (show 0 < 2 ^ 31 by decide))) ?_
      refine lv_iload hx hb dL_law_926 (lv_at hl 0 rfl) ?_
      refine lv_i2l (v := (nI (c_clk v y1 y2)).toInt64) hx hb dL_law_928 rfl ?_
      refine W.lcmp hx hb dL_law_929 ?_
      refine o_ti (z_cmp hu) ?_
      refine o_if_eq (a := 0) (tgt := 935) hx hb dL_law_930 (by decide) (Nat.le_of_ble_eq_true rfl) (fun _ => ?_) (fun z => absurd rfl z)
      refine lv_goto (tgt := 1310) hx hb dL_law_935 (by decide) ?_
      refine W.widen (k := cells + 1) (n := slots + 6) (by omega) (by omega) ?_
      exact K _ _ _ _ _ _ _ _ ⟨hP, hD, hS, g_thr G (by omega) 0⟩ (z_drop hl)
    · skip
      have ec : (if y1 < 3 then if y2 < 3 then 0 else 2 else 1 : Nat) = 2 := by rw [if_pos hc1, if_neg hc2]
      refine lv_aload_n hx hb dL_law_870 rfl (lv_at hl 2 rfl) ?_
      refine lv_aload_n hx hb dL_law_871 rfl (lv_at hl 1 rfl) ?_
      refine lv_iload hx hb dL_law_872 (lv_at hl 0 rfl) ?_
      refine o_const (k := 1) hx hb dL_law_874 (by decide) ?_
      refine o_iadd (k := i + 1) hx hb dL_law_875 rfl ?_
      refine z_ld (y := y1) hx hb hX hS (show i + 1 < L by omega) ey1 dL_law_876 ?_
      refine lv_aload_n hx hb dL_law_877 rfl (lv_at hl 1 rfl) ?_
      refine lv_iload hx hb dL_law_878 (lv_at hl 0 rfl) ?_
      refine o_const (k := 2) hx hb dL_law_880 (by decide) ?_
      refine o_iadd (k := i + 2) hx hb dL_law_881 rfl ?_
      refine z_ld (y := y2) hx hb hX hS (show i + 2 < L by omega) ey2 dL_law_882 ?_
      refine lv_aload_n hx hb dL_law_883 rfl (lv_at hl 4 rfl) ?_
      refine o_xiT (wM q cI mv) (vx_runSX (As := [.ref (o 0), .int (nI y1), .int (nI y2), .ref a]) (rest := []) ⟨hx, hb, hml, hown, hts⟩ (l_clerk_2 l D cI cR cS cL hfl H.size o x v (wV o cI cR V) B y1 y2 a g (by first | assumption | omega) (by first | assumption | omega) (by first | assumption | omega)) (vx_cwSW 4 hts gL_law_L_clerk rfl rfl rfl (by decide +kernel) ⟨Nat.le_of_ble_eq_true rfl, Nat.le_of_ble_eq_true rfl⟩) (o_pF (W := [ol cL a 1 g] ++ (wO o cI cR cS x v (wV o cI cR V))) hK (hG.kept hS) (o_PT (pre := (wM q cI mv)) (ws := [ol cL a 1 g] ++ (wO o cI cR cS x v (wV o cI cR V))) hP) (o_DT (pre := (wM q cI mv)) (ws := [ol cL a 1 g] ++ (wO o cI cR cS x v (wV o cI cR V))) hD) (va_free hD hS hA _ (o_getT (wM q cI mv) ([ol cL a 1 g] ++ (wO o cI cR cS x v (wV o cI cR V)))))) rfl rfl hl.1 rfl (lv_room (Nat.le_of_ble_eq_true rfl)) dL_law_884 ⟨show cells + 1 ≤ 601024 by omega, show slots + 6 ≤ 7293034 by omega⟩) hP hD hS hA (fun _ => rfl) (fun r1 u H locs e1 hP8 hD8 hS => ?_)
      obtain ⟨er1, hu⟩ := e1
      have er1 : r1 = nI 2 := er1
      subst er1
      subst hu
      have hP := hP8
      have hD := hD8
      have hP : va_P D vwCl (z_W q o cI cR cS cL a u x v mv V) H := hP
      have hD : va_D (z_A s) (z_W q o cI cR cS cL a u x v mv V) := hD
      refine lv_istore (lv' := [(5, .int (nI 2)), (4, .int (nI i)), (0, .ref sb), (1, .ref (o 0)), (2, .ref (q 0)), (3, .ref a)]) hx hb dL_law_887 hl (by decide) rfl (fun ls hl => ?_)
      refine lv_aload_n hx hb dL_law_889 rfl (lv_at hl 4 rfl) ?_
      refine lv_aload_n hx hb dL_law_890 rfl (lv_at hl 2 rfl) ?_
      refine lv_iload hx hb dL_law_891 (lv_at hl 1 rfl) ?_
      refine o_const (k := 1) hx hb dL_law_893 (by decide) ?_
      refine o_iadd (k := i + 1) hx hb dL_law_894 rfl ?_
      refine z_ld (y := y1) hx hb hX hS (show i + 1 < L by omega) ey1 dL_law_895 ?_
      refine lv_aload_n hx hb dL_law_896 rfl (lv_at hl 2 rfl) ?_
      refine lv_iload hx hb dL_law_897 (lv_at hl 1 rfl) ?_
      refine o_const (k := 2) hx hb dL_law_899 (by decide) ?_
      refine o_iadd (k := i + 2) hx hb dL_law_900 rfl ?_
      refine z_ld (y := y2) hx hb hX hS (show i + 2 < L by omega) ey2 dL_law_901 ?_
      refine o_wi (va_runV (As := [.int (nI y1), .int (nI y2)]) (rest := []) ⟨hx, hb, hml, hown, hts⟩ (k_X5_clerk l D cI cR cS cL H.size q mv B y1 y2 (by first | assumption | omega) (by first | assumption | omega) (by first | assumption | omega) (by first | assumption | omega)) (cwV 2 hts gL_law_X5_clerk rfl rfl rfl (by decide +kernel) ⟨Nat.le_of_ble_eq_true rfl, Nat.le_of_ble_eq_true rfl⟩) (o_v (o_pB hK hN (hP.sub (ws' := (wM q cI mv)) [0, 1, 2, 3, 4] rfl) (hD.sub (ws' := (wM q cI mv)) [0, 1, 2, 3, 4] (by decide +kernel) rfl)) (va_recv hK hP (ci := 5) (q0 := 0) rfl rfl)) rfl rfl hl.1 rfl (lv_room (Nat.le_of_ble_eq_true rfl)) dL_law_902 ⟨show cells + 1 + 0 ≤ 601024 by omega, show slots + 6 + 0 ≤ 7293034 by omega⟩) hP hD hS hA [0, 1, 2, 3, 4] (by decide +kernel) rfl (fun _ => rfl) (fun r2 _ H locs e2 hP hD hS => ?_)
      have hP : va_P D vwCl (z_W q o cI cR cS cL a u x v (va_up mv 0 (va_up (mv 0) 2 (if y1 < 3 then if y2 < 3 then 0 else 2 else 1))) V) H := hP
      have hD : va_D (z_A s) (z_W q o cI cR cS cL a u x v (va_up mv 0 (va_up (mv 0) 2 (if y1 < 3 then if y2 < 3 then 0 else 2 else 1))) V) := hD
      rw [ec] at hP hD
      refine lv_istore (lv' := [(6, .int r2), (5, .int (nI 2)), (4, .int (nI i)), (0, .ref sb), (1, .ref (o 0)), (2, .ref (q 0)), (3, .ref a)]) hx hb dL_law_905 hl (by decide) rfl (fun ls hl => ?_)
      refine lv_aload_n hx hb dL_law_907 rfl (lv_at hl 5 rfl) ?_
      refine o_ri (va_runV (As := []) (rest := []) ⟨hx, hb, hml, hown, hts⟩ (k_X5_thrown l D cI cR cS cL q (va_up mv 0 (va_up (mv 0) 2 2))) (cwV 0 hts gL_law_X5_thrown rfl rfl rfl (by decide +kernel) ⟨Nat.le_of_ble_eq_true rfl, Nat.le_of_ble_eq_true rfl⟩) (o_v (o_pR hK hN (hP.sub (ws' := (wM q cI (va_up mv 0 (va_up (mv 0) 2 2)))) [0, 1, 2, 3, 4] rfl)) (va_recv hK hP (ci := 5) (q0 := 0) rfl rfl)) rfl rfl hl.1 rfl (lv_room (Nat.le_of_ble_eq_true rfl)) dL_law_908 ⟨show cells + 1 + 0 ≤ 601024 by omega, show slots + 6 + 0 ≤ 7293034 by omega⟩) (fun r3 e3 => ?_)
      have e3 : r3 = nI 2 := e3.trans (congrArg nI (rfl : _ = 2))
      subst e3
      refine lv_iload hx hb dL_law_911 (lv_at hl 1 rfl) ?_
      refine o_icmp_eq (tgt := 918) hx hb dL_law_913 (by decide) (Nat.le_of_ble_eq_true rfl) (Nat.le_of_ble_eq_true rfl) (fun _ => ?_) (fun z => absurd rfl z)
      refine lv_iload hx hb dL_law_918 (lv_at hl 1 rfl) ?_
      refine o_if_ne (a := 2) (tgt := 935) hx hb dL_law_920 (by decide) (Nat.le_of_ble_eq_true rfl) (fun _ => ?_) (fun z => absurd z (by decide))
      refine lv_goto (tgt := 1310) hx hb dL_law_935 (by decide) ?_
      refine W.widen (k := cells + 1) (n := slots + 6) (by omega) (by omega) ?_
      exact K _ _ _ _ _ _ _ _ ⟨hP, hD, hS, g_thr G (by omega) 2⟩ (z_drop hl)
  · skip
    have ec : (if y1 < 3 then if y2 < 3 then 0 else 2 else 1 : Nat) = 1 := by rw [if_neg hc1]
    refine lv_aload_n hx hb dL_law_870 rfl (lv_at hl 2 rfl) ?_
    refine lv_aload_n hx hb dL_law_871 rfl (lv_at hl 1 rfl) ?_
    refine lv_iload hx hb dL_law_872 (lv_at hl 0 rfl) ?_
    refine o_const (k := 1) hx hb dL_law_874 (by decide) ?_
    refine o_iadd (k := i + 1) hx hb dL_law_875 rfl ?_
    refine z_ld (y := y1) hx hb hX hS (show i + 1 < L by omega) ey1 dL_law_876 ?_
    refine lv_aload_n hx hb dL_law_877 rfl (lv_at hl 1 rfl) ?_
    refine lv_iload hx hb dL_law_878 (lv_at hl 0 rfl) ?_
    refine o_const (k := 2) hx hb dL_law_880 (by decide) ?_
    refine o_iadd (k := i + 2) hx hb dL_law_881 rfl ?_
    refine z_ld (y := y2) hx hb hX hS (show i + 2 < L by omega) ey2 dL_law_882 ?_
    refine lv_aload_n hx hb dL_law_883 rfl (lv_at hl 4 rfl) ?_
    refine o_xiT (wM q cI mv) (vx_runSX (As := [.ref (o 0), .int (nI y1), .int (nI y2), .ref a]) (rest := []) ⟨hx, hb, hml, hown, hts⟩ (l_clerk_1 l D cI cR cS cL hfl H.size o x v (wV o cI cR V) B y1 y2 a g (by first | assumption | omega) (by first | assumption | omega)) (vx_cwSW 4 hts gL_law_L_clerk rfl rfl rfl (by decide +kernel) ⟨Nat.le_of_ble_eq_true rfl, Nat.le_of_ble_eq_true rfl⟩) (o_pF (W := [ol cL a 1 g] ++ (wO o cI cR cS x v (wV o cI cR V))) hK (hG.kept hS) (o_PT (pre := (wM q cI mv)) (ws := [ol cL a 1 g] ++ (wO o cI cR cS x v (wV o cI cR V))) hP) (o_DT (pre := (wM q cI mv)) (ws := [ol cL a 1 g] ++ (wO o cI cR cS x v (wV o cI cR V))) hD) (va_free hD hS hA _ (o_getT (wM q cI mv) ([ol cL a 1 g] ++ (wO o cI cR cS x v (wV o cI cR V)))))) rfl rfl hl.1 rfl (lv_room (Nat.le_of_ble_eq_true rfl)) dL_law_884 ⟨show cells + 1 ≤ 601024 by omega, show slots + 6 ≤ 7293034 by omega⟩) hP hD hS hA (fun _ => rfl) (fun r1 u H locs e1 hP8 hD8 hS => ?_)
    obtain ⟨er1, hu⟩ := e1
    have er1 : r1 = nI 1 := er1
    subst er1
    subst hu
    have hP := hP8
    have hD := hD8
    have hP : va_P D vwCl (z_W q o cI cR cS cL a u x v mv V) H := hP
    have hD : va_D (z_A s) (z_W q o cI cR cS cL a u x v mv V) := hD
    refine lv_istore (lv' := [(5, .int (nI 1)), (4, .int (nI i)), (0, .ref sb), (1, .ref (o 0)), (2, .ref (q 0)), (3, .ref a)]) hx hb dL_law_887 hl (by decide) rfl (fun ls hl => ?_)
    refine lv_aload_n hx hb dL_law_889 rfl (lv_at hl 4 rfl) ?_
    refine lv_aload_n hx hb dL_law_890 rfl (lv_at hl 2 rfl) ?_
    refine lv_iload hx hb dL_law_891 (lv_at hl 1 rfl) ?_
    refine o_const (k := 1) hx hb dL_law_893 (by decide) ?_
    refine o_iadd (k := i + 1) hx hb dL_law_894 rfl ?_
    refine z_ld (y := y1) hx hb hX hS (show i + 1 < L by omega) ey1 dL_law_895 ?_
    refine lv_aload_n hx hb dL_law_896 rfl (lv_at hl 2 rfl) ?_
    refine lv_iload hx hb dL_law_897 (lv_at hl 1 rfl) ?_
    refine o_const (k := 2) hx hb dL_law_899 (by decide) ?_
    refine o_iadd (k := i + 2) hx hb dL_law_900 rfl ?_
    refine z_ld (y := y2) hx hb hX hS (show i + 2 < L by omega) ey2 dL_law_901 ?_
    refine o_wi (va_runV (As := [.int (nI y1), .int (nI y2)]) (rest := []) ⟨hx, hb, hml, hown, hts⟩ (k_X5_clerk l D cI cR cS cL H.size q mv B y1 y2 (by first | assumption | omega) (by first | assumption | omega) (by first | assumption | omega) (by first | assumption | omega)) (cwV 2 hts gL_law_X5_clerk rfl rfl rfl (by decide +kernel) ⟨Nat.le_of_ble_eq_true rfl, Nat.le_of_ble_eq_true rfl⟩) (o_v (o_pB hK hN (hP.sub (ws' := (wM q cI mv)) [0, 1, 2, 3, 4] rfl) (hD.sub (ws' := (wM q cI mv)) [0, 1, 2, 3, 4] (by decide +kernel) rfl)) (va_recv hK hP (ci := 5) (q0 := 0) rfl rfl)) rfl rfl hl.1 rfl (lv_room (Nat.le_of_ble_eq_true rfl)) dL_law_902 ⟨show cells + 1 + 0 ≤ 601024 by omega, show slots + 6 + 0 ≤ 7293034 by omega⟩) hP hD hS hA [0, 1, 2, 3, 4] (by decide +kernel) rfl (fun _ => rfl) (fun r2 _ H locs e2 hP hD hS => ?_)
    have hP : va_P D vwCl (z_W q o cI cR cS cL a u x v (va_up mv 0 (va_up (mv 0) 2 (if y1 < 3 then if y2 < 3 then 0 else 2 else 1))) V) H := hP
    have hD : va_D (z_A s) (z_W q o cI cR cS cL a u x v (va_up mv 0 (va_up (mv 0) 2 (if y1 < 3 then if y2 < 3 then 0 else 2 else 1))) V) := hD
    rw [ec] at hP hD
    refine lv_istore (lv' := [(6, .int r2), (5, .int (nI 1)), (4, .int (nI i)), (0, .ref sb), (1, .ref (o 0)), (2, .ref (q 0)), (3, .ref a)]) hx hb dL_law_905 hl (by decide) rfl (fun ls hl => ?_)
    refine lv_aload_n hx hb dL_law_907 rfl (lv_at hl 5 rfl) ?_
    refine o_ri (va_runV (As := []) (rest := []) ⟨hx, hb, hml, hown, hts⟩ (k_X5_thrown l D cI cR cS cL q (va_up mv 0 (va_up (mv 0) 2 1))) (cwV 0 hts gL_law_X5_thrown rfl rfl rfl (by decide +kernel) ⟨Nat.le_of_ble_eq_true rfl, Nat.le_of_ble_eq_true rfl⟩) (o_v (o_pR hK hN (hP.sub (ws' := (wM q cI (va_up mv 0 (va_up (mv 0) 2 1)))) [0, 1, 2, 3, 4] rfl)) (va_recv hK hP (ci := 5) (q0 := 0) rfl rfl)) rfl rfl hl.1 rfl (lv_room (Nat.le_of_ble_eq_true rfl)) dL_law_908 ⟨show cells + 1 + 0 ≤ 601024 by omega, show slots + 6 + 0 ≤ 7293034 by omega⟩) (fun r3 e3 => ?_)
    have e3 : r3 = nI 1 := e3.trans (congrArg nI (rfl : _ = 1))
    subst e3
    refine lv_iload hx hb dL_law_911 (lv_at hl 1 rfl) ?_
    refine o_icmp_eq (tgt := 918) hx hb dL_law_913 (by decide) (Nat.le_of_ble_eq_true rfl) (Nat.le_of_ble_eq_true rfl) (fun _ => ?_) (fun z => absurd rfl z)
    refine lv_iload hx hb dL_law_918 (lv_at hl 1 rfl) ?_
    refine o_if_ne (a := 1) (tgt := 935) hx hb dL_law_920 (by decide) (Nat.le_of_ble_eq_true rfl) (fun _ => ?_) (fun z => absurd z (by decide))
    refine lv_goto (tgt := 1310) hx hb dL_law_935 (by decide) ?_
    refine W.widen (k := cells + 1) (n := slots + 6) (by omega) (by omega) ?_
    exact K _ _ _ _ _ _ _ _ ⟨hP, hD, hS, g_thr G (by omega) 1⟩ (z_drop hl)
set_option maxHeartbeats 4000000 in
set_option maxRecDepth 100000 in
theorem z_readerOf {p : Program} {l : Launch} {e : Env} {s : State} {m : MethodId} {args : Array Value} {below : List Frame} {meth : Method} {c : Code} {Q : State → Prop} {D : va_G} {cI cR cS cL : ClassId} {sb L : Nat} {xs : Nat → Int32} {q o : Nat → Nat} {a i B cells slots : Nat} {H : Heap} {locs : List Loc} {ls : Array Slot} {x v mv : Nat → Nat → Nat} {V : Nat → Nat → Nat → Nat} {g : Nat → Int64} (C : z_C p l s m args c D cI cR cS cL sb L xs) (h : z_S s D q o cI cR cS cL a g x v mv V B H locs) (hl : lv_has ls 9 (z_L i sb a o q)) (hi : i + 3 ≤ L) (hB : B < 2 ^ 27) (hc : cells + 1 ≤ 601024) (hsl : slots + 6 ≤ 7293034) (K : z_N p l e s m args below meth c Q D cI cR cS cL sb q o a i (B + 60) (cells + 1) (slots + 6)) : W p l e room_1 s m args below meth c H locs cells slots Q (F0 m 938 ls []) := by
  obtain ⟨hx, hb, hml, hown, hts, hK, hfl, hX, hG⟩ := C
  obtain ⟨hP, hD, hS, G⟩ := h
  obtain ⟨hR, hSI, hI, -, -⟩ := id G
  obtain ⟨⟨gx0, gx1, gx2⟩, ⟨gx3, gx4, gx5⟩, hx1, hm3, hVI⟩ := g_x G
  have hN := hG.1
  have hA : ∀ q : Nat, s.heap.size ≤ q → z_A s q := fun _ h => h
  have hB28 : B < 2 ^ 28 := by omega
  have hs6 : mv 0 0 ≤ 6 := by omega
  have h60 : mv 0 1 ≤ 60 := by omega
  obtain ⟨y1, hy1, ey1⟩ := o_of (xs (i + 1))
  obtain ⟨y2, hy2, ey2⟩ := o_of (xs (i + 2))
  by_cases hc1 : y1 < 4
  · skip
    by_cases hc2 : y2 < 8
    · skip
      have ec : (if y1 < 4 then if y2 < 8 then 0 else 2 else 1 : Nat) = 0 := by rw [if_pos hc1, if_pos hc2]
      refine lv_aload_n hx hb dL_law_938 rfl (lv_at hl 2 rfl) ?_
      refine lv_aload_n hx hb dL_law_939 rfl (lv_at hl 1 rfl) ?_
      refine lv_iload hx hb dL_law_940 (lv_at hl 0 rfl) ?_
      refine o_const (k := 1) hx hb dL_law_942 (by decide) ?_
      refine o_iadd (k := i + 1) hx hb dL_law_943 rfl ?_
      refine z_ld (y := y1) hx hb hX hS (show i + 1 < L by omega) ey1 dL_law_944 ?_
      refine lv_aload_n hx hb dL_law_945 rfl (lv_at hl 1 rfl) ?_
      refine lv_iload hx hb dL_law_946 (lv_at hl 0 rfl) ?_
      refine o_const (k := 2) hx hb dL_law_948 (by decide) ?_
      refine o_iadd (k := i + 2) hx hb dL_law_949 rfl ?_
      refine z_ld (y := y2) hx hb hX hS (show i + 2 < L by omega) ey2 dL_law_950 ?_
      refine lv_aload_n hx hb dL_law_951 rfl (lv_at hl 4 rfl) ?_
      refine o_xiT (wM q cI mv) (vx_runSX (As := [.ref (o 0), .int (nI y1), .int (nI y2), .ref a]) (rest := []) ⟨hx, hb, hml, hown, hts⟩ (l_readerOf_0 l D cI cR cS cL H.size o x v (wV o cI cR V) B y1 y2 a g (by first | assumption | omega) (by first | assumption | omega) (by first | assumption | omega) (by first | assumption | omega)) (vx_cwSW 4 hts gL_law_L_readerOf rfl rfl rfl (by decide +kernel) ⟨Nat.le_of_ble_eq_true rfl, Nat.le_of_ble_eq_true rfl⟩) (o_pF (W := [ol cL a 1 g] ++ (wO o cI cR cS x v (wV o cI cR V))) hK (hG.kept hS) (o_PT (pre := (wM q cI mv)) (ws := [ol cL a 1 g] ++ (wO o cI cR cS x v (wV o cI cR V))) hP) (o_DT (pre := (wM q cI mv)) (ws := [ol cL a 1 g] ++ (wO o cI cR cS x v (wV o cI cR V))) hD) (va_free hD hS hA _ (o_getT (wM q cI mv) ([ol cL a 1 g] ++ (wO o cI cR cS x v (wV o cI cR V)))))) rfl rfl hl.1 rfl (lv_room (Nat.le_of_ble_eq_true rfl)) dL_law_952 ⟨show cells + 0 ≤ 601024 by omega, show slots + 0 ≤ 7293034 by omega⟩) hP hD hS hA (fun _ => rfl) (fun r1 u H locs e1 hP8 hD8 hS => ?_)
      obtain ⟨er1, hu⟩ := e1
      have er1 : r1 = nI 0 := er1
      subst er1
      have hu : u 0 = (nI (c_rdr v y1 y2)).toInt64 := hu
      have hP := hP8
      have hD := hD8
      have hP : va_P D vwCl (z_W q o cI cR cS cL a u x v mv V) H := hP
      have hD : va_D (z_A s) (z_W q o cI cR cS cL a u x v mv V) := hD
      refine lv_istore (lv' := [(5, .int (nI 0)), (4, .int (nI i)), (0, .ref sb), (1, .ref (o 0)), (2, .ref (q 0)), (3, .ref a)]) hx hb dL_law_955 hl (by decide) rfl (fun ls hl => ?_)
      refine lv_aload_n hx hb dL_law_957 rfl (lv_at hl 4 rfl) ?_
      refine lv_aload_n hx hb dL_law_958 rfl (lv_at hl 2 rfl) ?_
      refine lv_iload hx hb dL_law_959 (lv_at hl 1 rfl) ?_
      refine o_const (k := 1) hx hb dL_law_961 (by decide) ?_
      refine o_iadd (k := i + 1) hx hb dL_law_962 rfl ?_
      refine z_ld (y := y1) hx hb hX hS (show i + 1 < L by omega) ey1 dL_law_963 ?_
      refine lv_aload_n hx hb dL_law_964 rfl (lv_at hl 2 rfl) ?_
      refine lv_iload hx hb dL_law_965 (lv_at hl 1 rfl) ?_
      refine o_const (k := 2) hx hb dL_law_967 (by decide) ?_
      refine o_iadd (k := i + 2) hx hb dL_law_968 rfl ?_
      refine z_ld (y := y2) hx hb hX hS (show i + 2 < L by omega) ey2 dL_law_969 ?_
      refine o_wi (va_runV (As := [.int (nI y1), .int (nI y2)]) (rest := []) ⟨hx, hb, hml, hown, hts⟩ (k_X5_readerOf l D cI cR cS cL H.size q mv B y1 y2 (by first | assumption | omega) (by first | assumption | omega) (by first | assumption | omega) (by first | assumption | omega)) (cwV 2 hts gL_law_X5_readerOf rfl rfl rfl (by decide +kernel) ⟨Nat.le_of_ble_eq_true rfl, Nat.le_of_ble_eq_true rfl⟩) (o_v (o_pB hK hN (hP.sub (ws' := (wM q cI mv)) [0, 1, 2, 3, 4] rfl) (hD.sub (ws' := (wM q cI mv)) [0, 1, 2, 3, 4] (by decide +kernel) rfl)) (va_recv hK hP (ci := 5) (q0 := 0) rfl rfl)) rfl rfl hl.1 rfl (lv_room (Nat.le_of_ble_eq_true rfl)) dL_law_970 ⟨show cells + 0 + 0 ≤ 601024 by omega, show slots + 0 + 0 ≤ 7293034 by omega⟩) hP hD hS hA [0, 1, 2, 3, 4] (by decide +kernel) rfl (fun _ => rfl) (fun r2 _ H locs e2 hP hD hS => ?_)
      have hP : va_P D vwCl (z_W q o cI cR cS cL a u x v (va_up mv 0 (va_up (mv 0) 2 (if y1 < 4 then if y2 < 8 then 0 else 2 else 1))) V) H := hP
      have hD : va_D (z_A s) (z_W q o cI cR cS cL a u x v (va_up mv 0 (va_up (mv 0) 2 (if y1 < 4 then if y2 < 8 then 0 else 2 else 1))) V) := hD
      rw [ec] at hP hD
      have e2 : r2 = nI (if y1 < 4 then if y2 < 8 then m_ofrd (mv 1) y1 y2 else 0 else 0) := e2
      have er : (if y1 < 4 then if y2 < 8 then m_ofrd (mv 1) y1 y2 else 0 else 0) = (c_rdr v y1 y2) := by rw [if_pos hc1, if_pos hc2]; exact (p_rdr hR hI hc1 hc2).symm
      rw [er] at e2
      subst e2
      refine lv_istore (lv' := [(6, .int (nI (c_rdr v y1 y2))), (5, .int (nI 0)), (4, .int (nI i)), (0, .ref sb), (1, .ref (o 0)), (2, .ref (q 0)), (3, .ref a)]) hx hb dL_law_973 hl (by decide) rfl (fun ls hl => ?_)
      refine lv_aload_n hx hb dL_law_975 rfl (lv_at hl 5 rfl) ?_
      refine o_ri (va_runV (As := []) (rest := []) ⟨hx, hb, hml, hown, hts⟩ (k_X5_thrown l D cI cR cS cL q (va_up mv 0 (va_up (mv 0) 2 0))) (cwV 0 hts gL_law_X5_thrown rfl rfl rfl (by decide +kernel) ⟨Nat.le_of_ble_eq_true rfl, Nat.le_of_ble_eq_true rfl⟩) (o_v (o_pR hK hN (hP.sub (ws' := (wM q cI (va_up mv 0 (va_up (mv 0) 2 0)))) [0, 1, 2, 3, 4] rfl)) (va_recv hK hP (ci := 5) (q0 := 0) rfl rfl)) rfl rfl hl.1 rfl (lv_room (Nat.le_of_ble_eq_true rfl)) dL_law_976 ⟨show cells + 0 + 0 ≤ 601024 by omega, show slots + 0 + 0 ≤ 7293034 by omega⟩) (fun r3 e3 => ?_)
      have e3 : r3 = nI 0 := e3.trans (congrArg nI (rfl : _ = 0))
      subst e3
      refine lv_iload hx hb dL_law_979 (lv_at hl 1 rfl) ?_
      refine o_icmp_eq (tgt := 986) hx hb dL_law_981 (by decide) (Nat.le_of_ble_eq_true rfl) (Nat.le_of_ble_eq_true rfl) (fun _ => ?_) (fun z => absurd rfl z)
      refine lv_iload hx hb dL_law_986 (lv_at hl 1 rfl) ?_
      refine o_if_ne (a := 0) (tgt := 1003) hx hb dL_law_988 (by decide) (Nat.le_of_ble_eq_true rfl) (fun z => absurd rfl z) (fun _ => ?_)
      refine lv_aload_n hx hb dL_law_991 rfl (lv_at hl 6 rfl) ?_
      refine o_const (k := 0) hx hb dL_law_992 (by decide) ?_
      refine va_lald hx hb hK hP 5 3 rfl rfl (vp_in_nI (by decide) (by decide)) dL_law_993 ?_
      refine o_tl (congrArg u (nI_clamp (show 0 < 2 ^ 31 by decide))) ?_
      refine lv_iload hx hb dL_law_994 (lv_at hl 0 rfl) ?_
      refine lv_i2l (v := (nI (c_rdr v y1 y2)).toInt64) hx hb dL_law_996 rfl ?_
      refine W.lcmp hx hb dL_law_997 ?_
      refine o_ti (z_cmp hu) ?_
      refine o_if_eq (a := 0) (tgt := 1003) hx hb dL_law_998 (by decide) (Nat.le_of_ble_eq_true rfl) (fun _ => ?_) (fun z => absurd rfl z)
      refine lv_goto (tgt := 1310) hx hb dL_law_1003 (by decide) ?_
      refine W.widen (k := cells + 1) (n := slots + 6) (by omega) (by omega) ?_
      exact K _ _ _ _ _ _ _ _ ⟨hP, hD, hS, g_thr G (by omega) 0⟩ (z_drop hl)
    · skip
      have ec : (if y1 < 4 then if y2 < 8 then 0 else 2 else 1 : Nat) = 2 := by rw [if_pos hc1, if_neg hc2]
      refine lv_aload_n hx hb dL_law_938 rfl (lv_at hl 2 rfl) ?_
      refine lv_aload_n hx hb dL_law_939 rfl (lv_at hl 1 rfl) ?_
      refine lv_iload hx hb dL_law_940 (lv_at hl 0 rfl) ?_
      refine o_const (k := 1) hx hb dL_law_942 (by decide) ?_
      refine o_iadd (k := i + 1) hx hb dL_law_943 rfl ?_
      refine z_ld (y := y1) hx hb hX hS (show i + 1 < L by omega) ey1 dL_law_944 ?_
      refine lv_aload_n hx hb dL_law_945 rfl (lv_at hl 1 rfl) ?_
      refine lv_iload hx hb dL_law_946 (lv_at hl 0 rfl) ?_
      refine o_const (k := 2) hx hb dL_law_948 (by decide) ?_
      refine o_iadd (k := i + 2) hx hb dL_law_949 rfl ?_
      refine z_ld (y := y2) hx hb hX hS (show i + 2 < L by omega) ey2 dL_law_950 ?_
      refine lv_aload_n hx hb dL_law_951 rfl (lv_at hl 4 rfl) ?_
      refine o_xiT (wM q cI mv) (vx_runSX (As := [.ref (o 0), .int (nI y1), .int (nI y2), .ref a]) (rest := []) ⟨hx, hb, hml, hown, hts⟩ (l_readerOf_2 l D cI cR cS cL hfl H.size o x v (wV o cI cR V) B y1 y2 a g (by first | assumption | omega) (by first | assumption | omega) (by first | assumption | omega)) (vx_cwSW 4 hts gL_law_L_readerOf rfl rfl rfl (by decide +kernel) ⟨Nat.le_of_ble_eq_true rfl, Nat.le_of_ble_eq_true rfl⟩) (o_pF (W := [ol cL a 1 g] ++ (wO o cI cR cS x v (wV o cI cR V))) hK (hG.kept hS) (o_PT (pre := (wM q cI mv)) (ws := [ol cL a 1 g] ++ (wO o cI cR cS x v (wV o cI cR V))) hP) (o_DT (pre := (wM q cI mv)) (ws := [ol cL a 1 g] ++ (wO o cI cR cS x v (wV o cI cR V))) hD) (va_free hD hS hA _ (o_getT (wM q cI mv) ([ol cL a 1 g] ++ (wO o cI cR cS x v (wV o cI cR V)))))) rfl rfl hl.1 rfl (lv_room (Nat.le_of_ble_eq_true rfl)) dL_law_952 ⟨show cells + 1 ≤ 601024 by omega, show slots + 6 ≤ 7293034 by omega⟩) hP hD hS hA (fun _ => rfl) (fun r1 u H locs e1 hP8 hD8 hS => ?_)
      obtain ⟨er1, hu⟩ := e1
      have er1 : r1 = nI 2 := er1
      subst er1
      subst hu
      have hP := hP8
      have hD := hD8
      have hP : va_P D vwCl (z_W q o cI cR cS cL a u x v mv V) H := hP
      have hD : va_D (z_A s) (z_W q o cI cR cS cL a u x v mv V) := hD
      refine lv_istore (lv' := [(5, .int (nI 2)), (4, .int (nI i)), (0, .ref sb), (1, .ref (o 0)), (2, .ref (q 0)), (3, .ref a)]) hx hb dL_law_955 hl (by decide) rfl (fun ls hl => ?_)
      refine lv_aload_n hx hb dL_law_957 rfl (lv_at hl 4 rfl) ?_
      refine lv_aload_n hx hb dL_law_958 rfl (lv_at hl 2 rfl) ?_
      refine lv_iload hx hb dL_law_959 (lv_at hl 1 rfl) ?_
      refine o_const (k := 1) hx hb dL_law_961 (by decide) ?_
      refine o_iadd (k := i + 1) hx hb dL_law_962 rfl ?_
      refine z_ld (y := y1) hx hb hX hS (show i + 1 < L by omega) ey1 dL_law_963 ?_
      refine lv_aload_n hx hb dL_law_964 rfl (lv_at hl 2 rfl) ?_
      refine lv_iload hx hb dL_law_965 (lv_at hl 1 rfl) ?_
      refine o_const (k := 2) hx hb dL_law_967 (by decide) ?_
      refine o_iadd (k := i + 2) hx hb dL_law_968 rfl ?_
      refine z_ld (y := y2) hx hb hX hS (show i + 2 < L by omega) ey2 dL_law_969 ?_
      refine o_wi (va_runV (As := [.int (nI y1), .int (nI y2)]) (rest := []) ⟨hx, hb, hml, hown, hts⟩ (k_X5_readerOf l D cI cR cS cL H.size q mv B y1 y2 (by first | assumption | omega) (by first | assumption | omega) (by first | assumption | omega) (by first | assumption | omega)) (cwV 2 hts gL_law_X5_readerOf rfl rfl rfl (by decide +kernel) ⟨Nat.le_of_ble_eq_true rfl, Nat.le_of_ble_eq_true rfl⟩) (o_v (o_pB hK hN (hP.sub (ws' := (wM q cI mv)) [0, 1, 2, 3, 4] rfl) (hD.sub (ws' := (wM q cI mv)) [0, 1, 2, 3, 4] (by decide +kernel) rfl)) (va_recv hK hP (ci := 5) (q0 := 0) rfl rfl)) rfl rfl hl.1 rfl (lv_room (Nat.le_of_ble_eq_true rfl)) dL_law_970 ⟨show cells + 1 + 0 ≤ 601024 by omega, show slots + 6 + 0 ≤ 7293034 by omega⟩) hP hD hS hA [0, 1, 2, 3, 4] (by decide +kernel) rfl (fun _ => rfl) (fun r2 _ H locs e2 hP hD hS => ?_)
      have hP : va_P D vwCl (z_W q o cI cR cS cL a u x v (va_up mv 0 (va_up (mv 0) 2 (if y1 < 4 then if y2 < 8 then 0 else 2 else 1))) V) H := hP
      have hD : va_D (z_A s) (z_W q o cI cR cS cL a u x v (va_up mv 0 (va_up (mv 0) 2 (if y1 < 4 then if y2 < 8 then 0 else 2 else 1))) V) := hD
      rw [ec] at hP hD
      refine lv_istore (lv' := [(6, .int r2), (5, .int (nI 2)), (4, .int (nI i)), (0, .ref sb), (1, .ref (o 0)), (2, .ref (q 0)), (3, .ref a)]) hx hb dL_law_973 hl (by decide) rfl (fun ls hl => ?_)
      refine lv_aload_n hx hb dL_law_975 rfl (lv_at hl 5 rfl) ?_
      refine o_ri (va_runV (As := []) (rest := []) ⟨hx, hb, hml, hown, hts⟩ (k_X5_thrown l D cI cR cS cL q (va_up mv 0 (va_up (mv 0) 2 2))) (cwV 0 hts gL_law_X5_thrown rfl rfl rfl (by decide +kernel) ⟨Nat.le_of_ble_eq_true rfl, Nat.le_of_ble_eq_true rfl⟩) (o_v (o_pR hK hN (hP.sub (ws' := (wM q cI (va_up mv 0 (va_up (mv 0) 2 2)))) [0, 1, 2, 3, 4] rfl)) (va_recv hK hP (ci := 5) (q0 := 0) rfl rfl)) rfl rfl hl.1 rfl (lv_room (Nat.le_of_ble_eq_true rfl)) dL_law_976 ⟨show cells + 1 + 0 ≤ 601024 by omega, show slots + 6 + 0 ≤ 7293034 by omega⟩) (fun r3 e3 => ?_)
      have e3 : r3 = nI 2 := e3.trans (congrArg nI (rfl : _ = 2))
      subst e3
      refine lv_iload hx hb dL_law_979 (lv_at hl 1 rfl) ?_
      refine o_icmp_eq (tgt := 986) hx hb dL_law_981 (by decide) (Nat.le_of_ble_eq_true rfl) (Nat.le_of_ble_eq_true rfl) (fun _ => ?_) (fun z => absurd rfl z)
      refine lv_iload hx hb dL_law_986 (lv_at hl 1 rfl) ?_
      refine o_if_ne (a := 2) (tgt := 1003) hx hb dL_law_988 (by decide) (Nat.le_of_ble_eq_true rfl) (fun _ => ?_) (fun z => absurd z (by decide))
      refine lv_goto (tgt := 1310) hx hb dL_law_1003 (by decide) ?_
      refine W.widen (k := cells + 1) (n := slots + 6) (by omega) (by omega) ?_
      exact K _ _ _ _ _ _ _ _ ⟨hP, hD, hS, g_thr G (by omega) 2⟩ (z_drop hl)
  · skip
    have ec : (if y1 < 4 then if y2 < 8 then 0 else 2 else 1 : Nat) = 1 := by rw [if_neg hc1]
    refine lv_aload_n hx hb dL_law_938 rfl (lv_at hl 2 rfl) ?_
    refine lv_aload_n hx hb dL_law_939 rfl (lv_at hl 1 rfl) ?_
    refine lv_iload hx hb dL_law_940 (lv_at hl 0 rfl) ?_
    refine o_const (k := 1) hx hb dL_law_942 (by decide) ?_
    refine o_iadd (k := i + 1) hx hb dL_law_943 rfl ?_
    refine z_ld (y := y1) hx hb hX hS (show i + 1 < L by omega) ey1 dL_law_944 ?_
    refine lv_aload_n hx hb dL_law_945 rfl (lv_at hl 1 rfl) ?_
    refine lv_iload hx hb dL_law_946 (lv_at hl 0 rfl) ?_
    refine o_const (k := 2) hx hb dL_law_948 (by decide) ?_
    refine o_iadd (k := i + 2) hx hb dL_law_949 rfl ?_
    refine z_ld (y := y2) hx hb hX hS (show i + 2 < L by omega) ey2 dL_law_950 ?_
    refine lv_aload_n hx hb dL_law_951 rfl (lv_at hl 4 rfl) ?_
    refine o_xiT (wM q cI mv) (vx_runSX (As := [.ref (o 0), .int (nI y1), .int (nI y2), .ref a]) (rest := []) ⟨hx, hb, hml, hown, hts⟩ (l_readerOf_1 l D cI cR cS cL hfl H.size o x v (wV o cI cR V) B y1 y2 a g (by first | assumption | omega) (by first | assumption | omega)) (vx_cwSW 4 hts gL_law_L_readerOf rfl rfl rfl (by decide +kernel) ⟨Nat.le_of_ble_eq_true rfl, Nat.le_of_ble_eq_true rfl⟩) (o_pF (W := [ol cL a 1 g] ++ (wO o cI cR cS x v (wV o cI cR V))) hK (hG.kept hS) (o_PT (pre := (wM q cI mv)) (ws := [ol cL a 1 g] ++ (wO o cI cR cS x v (wV o cI cR V))) hP) (o_DT (pre := (wM q cI mv)) (ws := [ol cL a 1 g] ++ (wO o cI cR cS x v (wV o cI cR V))) hD) (va_free hD hS hA _ (o_getT (wM q cI mv) ([ol cL a 1 g] ++ (wO o cI cR cS x v (wV o cI cR V)))))) rfl rfl hl.1 rfl (lv_room (Nat.le_of_ble_eq_true rfl)) dL_law_952 ⟨show cells + 1 ≤ 601024 by omega, show slots + 6 ≤ 7293034 by omega⟩) hP hD hS hA (fun _ => rfl) (fun r1 u H locs e1 hP8 hD8 hS => ?_)
    obtain ⟨er1, hu⟩ := e1
    have er1 : r1 = nI 1 := er1
    subst er1
    subst hu
    have hP := hP8
    have hD := hD8
    have hP : va_P D vwCl (z_W q o cI cR cS cL a u x v mv V) H := hP
    have hD : va_D (z_A s) (z_W q o cI cR cS cL a u x v mv V) := hD
    refine lv_istore (lv' := [(5, .int (nI 1)), (4, .int (nI i)), (0, .ref sb), (1, .ref (o 0)), (2, .ref (q 0)), (3, .ref a)]) hx hb dL_law_955 hl (by decide) rfl (fun ls hl => ?_)
    refine lv_aload_n hx hb dL_law_957 rfl (lv_at hl 4 rfl) ?_
    refine lv_aload_n hx hb dL_law_958 rfl (lv_at hl 2 rfl) ?_
    refine lv_iload hx hb dL_law_959 (lv_at hl 1 rfl) ?_
    refine o_const (k := 1) hx hb dL_law_961 (by decide) ?_
    refine o_iadd (k := i + 1) hx hb dL_law_962 rfl ?_
    refine z_ld (y := y1) hx hb hX hS (show i + 1 < L by omega) ey1 dL_law_963 ?_
    refine lv_aload_n hx hb dL_law_964 rfl (lv_at hl 2 rfl) ?_
    refine lv_iload hx hb dL_law_965 (lv_at hl 1 rfl) ?_
    refine o_const (k := 2) hx hb dL_law_967 (by decide) ?_
    refine o_iadd (k := i + 2) hx hb dL_law_968 rfl ?_
    refine z_ld (y := y2) hx hb hX hS (show i + 2 < L by omega) ey2 dL_law_969 ?_
    refine o_wi (va_runV (As := [.int (nI y1), .int (nI y2)]) (rest := []) ⟨hx, hb, hml, hown, hts⟩ (k_X5_readerOf l D cI cR cS cL H.size q mv B y1 y2 (by first | assumption | omega) (by first | assumption | omega) (by first | assumption | omega) (by first | assumption | omega)) (cwV 2 hts gL_law_X5_readerOf rfl rfl rfl (by decide +kernel) ⟨Nat.le_of_ble_eq_true rfl, Nat.le_of_ble_eq_true rfl⟩) (o_v (o_pB hK hN (hP.sub (ws' := (wM q cI mv)) [0, 1, 2, 3, 4] rfl) (hD.sub (ws' := (wM q cI mv)) [0, 1, 2, 3, 4] (by decide +kernel) rfl)) (va_recv hK hP (ci := 5) (q0 := 0) rfl rfl)) rfl rfl hl.1 rfl (lv_room (Nat.le_of_ble_eq_true rfl)) dL_law_970 ⟨show cells + 1 + 0 ≤ 601024 by omega, show slots + 6 + 0 ≤ 7293034 by omega⟩) hP hD hS hA [0, 1, 2, 3, 4] (by decide +kernel) rfl (fun _ => rfl) (fun r2 _ H locs e2 hP hD hS => ?_)
    have hP : va_P D vwCl (z_W q o cI cR cS cL a u x v (va_up mv 0 (va_up (mv 0) 2 (if y1 < 4 then if y2 < 8 then 0 else 2 else 1))) V) H := hP
    have hD : va_D (z_A s) (z_W q o cI cR cS cL a u x v (va_up mv 0 (va_up (mv 0) 2 (if y1 < 4 then if y2 < 8 then 0 else 2 else 1))) V) := hD
    rw [ec] at hP hD
    refine lv_istore (lv' := [(6, .int r2), (5, .int (nI 1)), (4, .int (nI i)), (0, .ref sb), (1, .ref (o 0)), (2, .ref (q 0)), (3, .ref a)]) hx hb dL_law_973 hl (by decide) rfl (fun ls hl => ?_)
    refine lv_aload_n hx hb dL_law_975 rfl (lv_at hl 5 rfl) ?_
    refine o_ri (va_runV (As := []) (rest := []) ⟨hx, hb, hml, hown, hts⟩ (k_X5_thrown l D cI cR cS cL q (va_up mv 0 (va_up (mv 0) 2 1))) (cwV 0 hts gL_law_X5_thrown rfl rfl rfl (by decide +kernel) ⟨Nat.le_of_ble_eq_true rfl, Nat.le_of_ble_eq_true rfl⟩) (o_v (o_pR hK hN (hP.sub (ws' := (wM q cI (va_up mv 0 (va_up (mv 0) 2 1)))) [0, 1, 2, 3, 4] rfl)) (va_recv hK hP (ci := 5) (q0 := 0) rfl rfl)) rfl rfl hl.1 rfl (lv_room (Nat.le_of_ble_eq_true rfl)) dL_law_976 ⟨show cells + 1 + 0 ≤ 601024 by omega, show slots + 6 + 0 ≤ 7293034 by omega⟩) (fun r3 e3 => ?_)
    have e3 : r3 = nI 1 := e3.trans (congrArg nI (rfl : _ = 1))
    subst e3
    refine lv_iload hx hb dL_law_979 (lv_at hl 1 rfl) ?_
    refine o_icmp_eq (tgt := 986) hx hb dL_law_981 (by decide) (Nat.le_of_ble_eq_true rfl) (Nat.le_of_ble_eq_true rfl) (fun _ => ?_) (fun z => absurd rfl z)
    refine lv_iload hx hb dL_law_986 (lv_at hl 1 rfl) ?_
    refine o_if_ne (a := 1) (tgt := 1003) hx hb dL_law_988 (by decide) (Nat.le_of_ble_eq_true rfl) (fun _ => ?_) (fun z => absurd z (by decide))
    refine lv_goto (tgt := 1310) hx hb dL_law_1003 (by decide) ?_
    refine W.widen (k := cells + 1) (n := slots + 6) (by omega) (by omega) ?_
    exact K _ _ _ _ _ _ _ _ ⟨hP, hD, hS, g_thr G (by omega) 1⟩ (z_drop hl)
set_option maxHeartbeats 4000000 in
set_option maxRecDepth 100000 in
theorem z_has {p : Program} {l : Launch} {e : Env} {s : State} {m : MethodId} {args : Array Value} {below : List Frame} {meth : Method} {c : Code} {Q : State → Prop} {D : va_G} {cI cR cS cL : ClassId} {sb L : Nat} {xs : Nat → Int32} {q o : Nat → Nat} {a i B cells slots : Nat} {H : Heap} {locs : List Loc} {ls : Array Slot} {x v mv : Nat → Nat → Nat} {V : Nat → Nat → Nat → Nat} {g : Nat → Int64} (C : z_C p l s m args c D cI cR cS cL sb L xs) (h : z_S s D q o cI cR cS cL a g x v mv V B H locs) (hl : lv_has ls 9 (z_L i sb a o q)) (hi : i + 3 ≤ L) (hB : B < 2 ^ 27) (hc : cells + 1 ≤ 601024) (hsl : slots + 6 ≤ 7293034) (K : z_N p l e s m args below meth c Q D cI cR cS cL sb q o a i (B + 60) (cells + 1) (slots + 6)) : W p l e room_1 s m args below meth c H locs cells slots Q (F0 m 1006 ls []) := by
  obtain ⟨hx, hb, hml, hown, hts, hK, hfl, hX, hG⟩ := C
  obtain ⟨hP, hD, hS, G⟩ := h
  obtain ⟨hR, hSI, hI, -, -⟩ := id G
  obtain ⟨⟨gx0, gx1, gx2⟩, ⟨gx3, gx4, gx5⟩, hx1, hm3, hVI⟩ := g_x G
  have hN := hG.1
  have hA : ∀ q : Nat, s.heap.size ≤ q → z_A s q := fun _ h => h
  have hB28 : B < 2 ^ 28 := by omega
  have hs6 : mv 0 0 ≤ 6 := by omega
  have h60 : mv 0 1 ≤ 60 := by omega
  obtain ⟨y1, hy1, ey1⟩ := o_of (xs (i + 1))
  obtain ⟨y2, hy2, ey2⟩ := o_of (xs (i + 2))
  by_cases hc1 : y1 < 4
  · skip
    by_cases hc2 : y2 < 5
    · skip
      have ec : (if y1 < 4 ∧ y2 < 5 then 0 else 1 : Nat) = 0 := by rw [if_pos ⟨hc1, hc2⟩]
      refine lv_aload_n hx hb dL_law_1006 rfl (lv_at hl 2 rfl) ?_
      refine lv_aload_n hx hb dL_law_1007 rfl (lv_at hl 1 rfl) ?_
      refine lv_iload hx hb dL_law_1008 (lv_at hl 0 rfl) ?_
      refine o_const (k := 1) hx hb dL_law_1010 (by decide) ?_
      refine o_iadd (k := i + 1) hx hb dL_law_1011 rfl ?_
      refine z_ld (y := y1) hx hb hX hS (show i + 1 < L by omega) ey1 dL_law_1012 ?_
      refine lv_aload_n hx hb dL_law_1013 rfl (lv_at hl 1 rfl) ?_
      refine lv_iload hx hb dL_law_1014 (lv_at hl 0 rfl) ?_
      refine o_const (k := 2) hx hb dL_law_1016 (by decide) ?_
      refine o_iadd (k := i + 2) hx hb dL_law_1017 rfl ?_
      refine z_ld (y := y2) hx hb hX hS (show i + 2 < L by omega) ey2 dL_law_1018 ?_
      refine lv_aload_n hx hb dL_law_1019 rfl (lv_at hl 4 rfl) ?_
      refine o_xiT (wM q cI mv) (vx_runSX (As := [.ref (o 0), .int (nI y1), .int (nI y2), .ref a]) (rest := []) ⟨hx, hb, hml, hown, hts⟩ (l_has_0 l D cI cR cS cL H.size o x v (wV o cI cR V) B y1 y2 a g (by first | assumption | omega) (by first | assumption | omega) (by first | assumption | omega) (by first | assumption | omega)) (vx_cwSW 4 hts gL_law_L_has rfl rfl rfl (by decide +kernel) ⟨Nat.le_of_ble_eq_true rfl, Nat.le_of_ble_eq_true rfl⟩) (o_pF (W := [ol cL a 1 g] ++ (wO o cI cR cS x v (wV o cI cR V))) hK (hG.kept hS) (o_PT (pre := (wM q cI mv)) (ws := [ol cL a 1 g] ++ (wO o cI cR cS x v (wV o cI cR V))) hP) (o_DT (pre := (wM q cI mv)) (ws := [ol cL a 1 g] ++ (wO o cI cR cS x v (wV o cI cR V))) hD) (va_free hD hS hA _ (o_getT (wM q cI mv) ([ol cL a 1 g] ++ (wO o cI cR cS x v (wV o cI cR V)))))) rfl rfl hl.1 rfl (lv_room (Nat.le_of_ble_eq_true rfl)) dL_law_1020 ⟨show cells + 0 ≤ 601024 by omega, show slots + 0 ≤ 7293034 by omega⟩) hP hD hS hA (fun _ => rfl) (fun r1 u H locs e1 hP8 hD8 hS => ?_)
      obtain ⟨er1, hu⟩ := e1
      have er1 : r1 = nI 0 := er1
      subst er1
      have hu : u 0 = (nI (c_has v y1 y2)).toInt64 := hu
      have hP := hP8
      have hD := hD8
      have hP : va_P D vwCl (z_W q o cI cR cS cL a u x v mv V) H := hP
      have hD : va_D (z_A s) (z_W q o cI cR cS cL a u x v mv V) := hD
      refine lv_istore (lv' := [(5, .int (nI 0)), (4, .int (nI i)), (0, .ref sb), (1, .ref (o 0)), (2, .ref (q 0)), (3, .ref a)]) hx hb dL_law_1023 hl (by decide) rfl (fun ls hl => ?_)
      refine lv_aload_n hx hb dL_law_1025 rfl (lv_at hl 4 rfl) ?_
      refine lv_aload_n hx hb dL_law_1026 rfl (lv_at hl 2 rfl) ?_
      refine lv_iload hx hb dL_law_1027 (lv_at hl 1 rfl) ?_
      refine o_const (k := 1) hx hb dL_law_1029 (by decide) ?_
      refine o_iadd (k := i + 1) hx hb dL_law_1030 rfl ?_
      refine z_ld (y := y1) hx hb hX hS (show i + 1 < L by omega) ey1 dL_law_1031 ?_
      refine lv_aload_n hx hb dL_law_1032 rfl (lv_at hl 2 rfl) ?_
      refine lv_iload hx hb dL_law_1033 (lv_at hl 1 rfl) ?_
      refine o_const (k := 2) hx hb dL_law_1035 (by decide) ?_
      refine o_iadd (k := i + 2) hx hb dL_law_1036 rfl ?_
      refine z_ld (y := y2) hx hb hX hS (show i + 2 < L by omega) ey2 dL_law_1037 ?_
      refine o_wi (va_runV (As := [.int (nI y1), .int (nI y2)]) (rest := []) ⟨hx, hb, hml, hown, hts⟩ (k_X5_has l D cI cR cS cL H.size q mv B y1 y2 (by first | assumption | omega) (by first | assumption | omega) (by first | assumption | omega) (by first | assumption | omega)) (cwV 2 hts gL_law_X5_has rfl rfl rfl (by decide +kernel) ⟨Nat.le_of_ble_eq_true rfl, Nat.le_of_ble_eq_true rfl⟩) (o_v (o_pB hK hN (hP.sub (ws' := (wM q cI mv)) [0, 1, 2, 3, 4] rfl) (hD.sub (ws' := (wM q cI mv)) [0, 1, 2, 3, 4] (by decide +kernel) rfl)) (va_recv hK hP (ci := 5) (q0 := 0) rfl rfl)) rfl rfl hl.1 rfl (lv_room (Nat.le_of_ble_eq_true rfl)) dL_law_1038 ⟨show cells + 0 + 0 ≤ 601024 by omega, show slots + 0 + 0 ≤ 7293034 by omega⟩) hP hD hS hA [0, 1, 2, 3, 4] (by decide +kernel) rfl (fun _ => rfl) (fun r2 _ H locs e2 hP hD hS => ?_)
      have hP : va_P D vwCl (z_W q o cI cR cS cL a u x v (va_up mv 0 (va_up (mv 0) 2 (if y1 < 4 ∧ y2 < 5 then 0 else 1))) V) H := hP
      have hD : va_D (z_A s) (z_W q o cI cR cS cL a u x v (va_up mv 0 (va_up (mv 0) 2 (if y1 < 4 ∧ y2 < 5 then 0 else 1))) V) := hD
      rw [ec] at hP hD
      have e2 : r2 = nI (if y1 < 4 ∧ y2 < 5 then m_had (mv 1) y1 y2 else 0) := e2
      have er : (if y1 < 4 ∧ y2 < 5 then m_had (mv 1) y1 y2 else 0) = (c_has v y1 y2) := by rw [if_pos ⟨hc1, hc2⟩]; exact (p_has hR hI hc1 hc2).symm
      rw [er] at e2
      subst e2
      refine lv_istore (lv' := [(6, .int (nI (c_has v y1 y2))), (5, .int (nI 0)), (4, .int (nI i)), (0, .ref sb), (1, .ref (o 0)), (2, .ref (q 0)), (3, .ref a)]) hx hb dL_law_1041 hl (by decide) rfl (fun ls hl => ?_)
      refine lv_aload_n hx hb dL_law_1043 rfl (lv_at hl 5 rfl) ?_
      refine o_ri (va_runV (As := []) (rest := []) ⟨hx, hb, hml, hown, hts⟩ (k_X5_thrown l D cI cR cS cL q (va_up mv 0 (va_up (mv 0) 2 0))) (cwV 0 hts gL_law_X5_thrown rfl rfl rfl (by decide +kernel) ⟨Nat.le_of_ble_eq_true rfl, Nat.le_of_ble_eq_true rfl⟩) (o_v (o_pR hK hN (hP.sub (ws' := (wM q cI (va_up mv 0 (va_up (mv 0) 2 0)))) [0, 1, 2, 3, 4] rfl)) (va_recv hK hP (ci := 5) (q0 := 0) rfl rfl)) rfl rfl hl.1 rfl (lv_room (Nat.le_of_ble_eq_true rfl)) dL_law_1044 ⟨show cells + 0 + 0 ≤ 601024 by omega, show slots + 0 + 0 ≤ 7293034 by omega⟩) (fun r3 e3 => ?_)
      have e3 : r3 = nI 0 := e3.trans (congrArg nI (rfl : _ = 0))
      subst e3
      refine lv_iload hx hb dL_law_1047 (lv_at hl 1 rfl) ?_
      refine o_icmp_eq (tgt := 1054) hx hb dL_law_1049 (by decide) (Nat.le_of_ble_eq_true rfl) (Nat.le_of_ble_eq_true rfl) (fun _ => ?_) (fun z => absurd rfl z)
      refine lv_iload hx hb dL_law_1054 (lv_at hl 1 rfl) ?_
      refine o_if_ne (a := 0) (tgt := 1071) hx hb dL_law_1056 (by decide) (Nat.le_of_ble_eq_true rfl) (fun z => absurd rfl z) (fun _ => ?_)
      refine lv_aload_n hx hb dL_law_1059 rfl (lv_at hl 6 rfl) ?_
      refine o_const (k := 0) hx hb dL_law_1060 (by decide) ?_
      refine va_lald hx hb hK hP 5 3 rfl rfl (vp_in_nI (by decide) (by decide)) dL_law_1061 ?_
      refine o_tl (congrArg u (nI_clamp (show 0 < 2 ^ 31 by decide))) ?_
      refine lv_iload hx hb dL_law_1062 (lv_at hl 0 rfl) ?_
      refine lv_i2l (v := (nI (c_has v y1 y2)).toInt64) hx hb dL_law_1064 rfl ?_
      refine W.lcmp hx hb dL_law_1065 ?_
      refine o_ti (z_cmp hu) ?_
      refine o_if_eq (a := 0) (tgt := 1071) hx hb dL_law_1066 (by decide) (Nat.le_of_ble_eq_true rfl) (fun _ => ?_) (fun z => absurd rfl z)
      refine lv_goto (tgt := 1310) hx hb dL_law_1071 (by decide) ?_
      refine W.widen (k := cells + 1) (n := slots + 6) (by omega) (by omega) ?_
      exact K _ _ _ _ _ _ _ _ ⟨hP, hD, hS, g_thr G (by omega) 0⟩ (z_drop hl)
    · skip
      have ec : (if y1 < 4 ∧ y2 < 5 then 0 else 1 : Nat) = 1 := by rw [if_neg (fun z => hc2 z.2)]
      refine lv_aload_n hx hb dL_law_1006 rfl (lv_at hl 2 rfl) ?_
      refine lv_aload_n hx hb dL_law_1007 rfl (lv_at hl 1 rfl) ?_
      refine lv_iload hx hb dL_law_1008 (lv_at hl 0 rfl) ?_
      refine o_const (k := 1) hx hb dL_law_1010 (by decide) ?_
      refine o_iadd (k := i + 1) hx hb dL_law_1011 rfl ?_
      refine z_ld (y := y1) hx hb hX hS (show i + 1 < L by omega) ey1 dL_law_1012 ?_
      refine lv_aload_n hx hb dL_law_1013 rfl (lv_at hl 1 rfl) ?_
      refine lv_iload hx hb dL_law_1014 (lv_at hl 0 rfl) ?_
      refine o_const (k := 2) hx hb dL_law_1016 (by decide) ?_
      refine o_iadd (k := i + 2) hx hb dL_law_1017 rfl ?_
      refine z_ld (y := y2) hx hb hX hS (show i + 2 < L by omega) ey2 dL_law_1018 ?_
      refine lv_aload_n hx hb dL_law_1019 rfl (lv_at hl 4 rfl) ?_
      refine o_xiT (wM q cI mv) (vx_runSX (As := [.ref (o 0), .int (nI y1), .int (nI y2), .ref a]) (rest := []) ⟨hx, hb, hml, hown, hts⟩ (l_has_1b l D cI cR cS cL hfl H.size o x v (wV o cI cR V) B y1 y2 a g (by first | assumption | omega) (by first | assumption | omega) (by first | assumption | omega)) (vx_cwSW 4 hts gL_law_L_has rfl rfl rfl (by decide +kernel) ⟨Nat.le_of_ble_eq_true rfl, Nat.le_of_ble_eq_true rfl⟩) (o_pF (W := [ol cL a 1 g] ++ (wO o cI cR cS x v (wV o cI cR V))) hK (hG.kept hS) (o_PT (pre := (wM q cI mv)) (ws := [ol cL a 1 g] ++ (wO o cI cR cS x v (wV o cI cR V))) hP) (o_DT (pre := (wM q cI mv)) (ws := [ol cL a 1 g] ++ (wO o cI cR cS x v (wV o cI cR V))) hD) (va_free hD hS hA _ (o_getT (wM q cI mv) ([ol cL a 1 g] ++ (wO o cI cR cS x v (wV o cI cR V)))))) rfl rfl hl.1 rfl (lv_room (Nat.le_of_ble_eq_true rfl)) dL_law_1020 ⟨show cells + 1 ≤ 601024 by omega, show slots + 6 ≤ 7293034 by omega⟩) hP hD hS hA (fun _ => rfl) (fun r1 u H locs e1 hP8 hD8 hS => ?_)
      obtain ⟨er1, hu⟩ := e1
      have er1 : r1 = nI 1 := er1
      subst er1
      subst hu
      have hP := hP8
      have hD := hD8
      have hP : va_P D vwCl (z_W q o cI cR cS cL a u x v mv V) H := hP
      have hD : va_D (z_A s) (z_W q o cI cR cS cL a u x v mv V) := hD
      refine lv_istore (lv' := [(5, .int (nI 1)), (4, .int (nI i)), (0, .ref sb), (1, .ref (o 0)), (2, .ref (q 0)), (3, .ref a)]) hx hb dL_law_1023 hl (by decide) rfl (fun ls hl => ?_)
      refine lv_aload_n hx hb dL_law_1025 rfl (lv_at hl 4 rfl) ?_
      refine lv_aload_n hx hb dL_law_1026 rfl (lv_at hl 2 rfl) ?_
      refine lv_iload hx hb dL_law_1027 (lv_at hl 1 rfl) ?_
      refine o_const (k := 1) hx hb dL_law_1029 (by decide) ?_
      refine o_iadd (k := i + 1) hx hb dL_law_1030 rfl ?_
      refine z_ld (y := y1) hx hb hX hS (show i + 1 < L by omega) ey1 dL_law_1031 ?_
      refine lv_aload_n hx hb dL_law_1032 rfl (lv_at hl 2 rfl) ?_
      refine lv_iload hx hb dL_law_1033 (lv_at hl 1 rfl) ?_
      refine o_const (k := 2) hx hb dL_law_1035 (by decide) ?_
      refine o_iadd (k := i + 2) hx hb dL_law_1036 rfl ?_
      refine z_ld (y := y2) hx hb hX hS (show i + 2 < L by omega) ey2 dL_law_1037 ?_
      refine o_wi (va_runV (As := [.int (nI y1), .int (nI y2)]) (rest := []) ⟨hx, hb, hml, hown, hts⟩ (k_X5_has l D cI cR cS cL H.size q mv B y1 y2 (by first | assumption | omega) (by first | assumption | omega) (by first | assumption | omega) (by first | assumption | omega)) (cwV 2 hts gL_law_X5_has rfl rfl rfl (by decide +kernel) ⟨Nat.le_of_ble_eq_true rfl, Nat.le_of_ble_eq_true rfl⟩) (o_v (o_pB hK hN (hP.sub (ws' := (wM q cI mv)) [0, 1, 2, 3, 4] rfl) (hD.sub (ws' := (wM q cI mv)) [0, 1, 2, 3, 4] (by decide +kernel) rfl)) (va_recv hK hP (ci := 5) (q0 := 0) rfl rfl)) rfl rfl hl.1 rfl (lv_room (Nat.le_of_ble_eq_true rfl)) dL_law_1038 ⟨show cells + 1 + 0 ≤ 601024 by omega, show slots + 6 + 0 ≤ 7293034 by omega⟩) hP hD hS hA [0, 1, 2, 3, 4] (by decide +kernel) rfl (fun _ => rfl) (fun r2 _ H locs e2 hP hD hS => ?_)
      have hP : va_P D vwCl (z_W q o cI cR cS cL a u x v (va_up mv 0 (va_up (mv 0) 2 (if y1 < 4 ∧ y2 < 5 then 0 else 1))) V) H := hP
      have hD : va_D (z_A s) (z_W q o cI cR cS cL a u x v (va_up mv 0 (va_up (mv 0) 2 (if y1 < 4 ∧ y2 < 5 then 0 else 1))) V) := hD
      rw [ec] at hP hD
      refine lv_istore (lv' := [(6, .int r2), (5, .int (nI 1)), (4, .int (nI i)), (0, .ref sb), (1, .ref (o 0)), (2, .ref (q 0)), (3, .ref a)]) hx hb dL_law_1041 hl (by decide) rfl (fun ls hl => ?_)
      refine lv_aload_n hx hb dL_law_1043 rfl (lv_at hl 5 rfl) ?_
      refine o_ri (va_runV (As := []) (rest := []) ⟨hx, hb, hml, hown, hts⟩ (k_X5_thrown l D cI cR cS cL q (va_up mv 0 (va_up (mv 0) 2 1))) (cwV 0 hts gL_law_X5_thrown rfl rfl rfl (by decide +kernel) ⟨Nat.le_of_ble_eq_true rfl, Nat.le_of_ble_eq_true rfl⟩) (o_v (o_pR hK hN (hP.sub (ws' := (wM q cI (va_up mv 0 (va_up (mv 0) 2 1)))) [0, 1, 2, 3, 4] rfl)) (va_recv hK hP (ci := 5) (q0 := 0) rfl rfl)) rfl rfl hl.1 rfl (lv_room (Nat.le_of_ble_eq_true rfl)) dL_law_1044 ⟨show cells + 1 + 0 ≤ 601024 by omega, show slots + 6 + 0 ≤ 7293034 by omega⟩) (fun r3 e3 => ?_)
      have e3 : r3 = nI 1 := e3.trans (congrArg nI (rfl : _ = 1))
      subst e3
      refine lv_iload hx hb dL_law_1047 (lv_at hl 1 rfl) ?_
      refine o_icmp_eq (tgt := 1054) hx hb dL_law_1049 (by decide) (Nat.le_of_ble_eq_true rfl) (Nat.le_of_ble_eq_true rfl) (fun _ => ?_) (fun z => absurd rfl z)
      refine lv_iload hx hb dL_law_1054 (lv_at hl 1 rfl) ?_
      refine o_if_ne (a := 1) (tgt := 1071) hx hb dL_law_1056 (by decide) (Nat.le_of_ble_eq_true rfl) (fun _ => ?_) (fun z => absurd z (by decide))
      refine lv_goto (tgt := 1310) hx hb dL_law_1071 (by decide) ?_
      refine W.widen (k := cells + 1) (n := slots + 6) (by omega) (by omega) ?_
      exact K _ _ _ _ _ _ _ _ ⟨hP, hD, hS, g_thr G (by omega) 1⟩ (z_drop hl)
  · skip
    have ec : (if y1 < 4 ∧ y2 < 5 then 0 else 1 : Nat) = 1 := by rw [if_neg (fun z => hc1 z.1)]
    refine lv_aload_n hx hb dL_law_1006 rfl (lv_at hl 2 rfl) ?_
    refine lv_aload_n hx hb dL_law_1007 rfl (lv_at hl 1 rfl) ?_
    refine lv_iload hx hb dL_law_1008 (lv_at hl 0 rfl) ?_
    refine o_const (k := 1) hx hb dL_law_1010 (by decide) ?_
    refine o_iadd (k := i + 1) hx hb dL_law_1011 rfl ?_
    refine z_ld (y := y1) hx hb hX hS (show i + 1 < L by omega) ey1 dL_law_1012 ?_
    refine lv_aload_n hx hb dL_law_1013 rfl (lv_at hl 1 rfl) ?_
    refine lv_iload hx hb dL_law_1014 (lv_at hl 0 rfl) ?_
    refine o_const (k := 2) hx hb dL_law_1016 (by decide) ?_
    refine o_iadd (k := i + 2) hx hb dL_law_1017 rfl ?_
    refine z_ld (y := y2) hx hb hX hS (show i + 2 < L by omega) ey2 dL_law_1018 ?_
    refine lv_aload_n hx hb dL_law_1019 rfl (lv_at hl 4 rfl) ?_
    refine o_xiT (wM q cI mv) (vx_runSX (As := [.ref (o 0), .int (nI y1), .int (nI y2), .ref a]) (rest := []) ⟨hx, hb, hml, hown, hts⟩ (l_has_1a l D cI cR cS cL hfl H.size o x v (wV o cI cR V) B y1 y2 a g (by first | assumption | omega) (by first | assumption | omega)) (vx_cwSW 4 hts gL_law_L_has rfl rfl rfl (by decide +kernel) ⟨Nat.le_of_ble_eq_true rfl, Nat.le_of_ble_eq_true rfl⟩) (o_pF (W := [ol cL a 1 g] ++ (wO o cI cR cS x v (wV o cI cR V))) hK (hG.kept hS) (o_PT (pre := (wM q cI mv)) (ws := [ol cL a 1 g] ++ (wO o cI cR cS x v (wV o cI cR V))) hP) (o_DT (pre := (wM q cI mv)) (ws := [ol cL a 1 g] ++ (wO o cI cR cS x v (wV o cI cR V))) hD) (va_free hD hS hA _ (o_getT (wM q cI mv) ([ol cL a 1 g] ++ (wO o cI cR cS x v (wV o cI cR V)))))) rfl rfl hl.1 rfl (lv_room (Nat.le_of_ble_eq_true rfl)) dL_law_1020 ⟨show cells + 1 ≤ 601024 by omega, show slots + 6 ≤ 7293034 by omega⟩) hP hD hS hA (fun _ => rfl) (fun r1 u H locs e1 hP8 hD8 hS => ?_)
    obtain ⟨er1, hu⟩ := e1
    have er1 : r1 = nI 1 := er1
    subst er1
    subst hu
    have hP := hP8
    have hD := hD8
    have hP : va_P D vwCl (z_W q o cI cR cS cL a u x v mv V) H := hP
    have hD : va_D (z_A s) (z_W q o cI cR cS cL a u x v mv V) := hD
    refine lv_istore (lv' := [(5, .int (nI 1)), (4, .int (nI i)), (0, .ref sb), (1, .ref (o 0)), (2, .ref (q 0)), (3, .ref a)]) hx hb dL_law_1023 hl (by decide) rfl (fun ls hl => ?_)
    refine lv_aload_n hx hb dL_law_1025 rfl (lv_at hl 4 rfl) ?_
    refine lv_aload_n hx hb dL_law_1026 rfl (lv_at hl 2 rfl) ?_
    refine lv_iload hx hb dL_law_1027 (lv_at hl 1 rfl) ?_
    refine o_const (k := 1) hx hb dL_law_1029 (by decide) ?_
    refine o_iadd (k := i + 1) hx hb dL_law_1030 rfl ?_
    refine z_ld (y := y1) hx hb hX hS (show i + 1 < L by omega) ey1 dL_law_1031 ?_
    refine lv_aload_n hx hb dL_law_1032 rfl (lv_at hl 2 rfl) ?_
    refine lv_iload hx hb dL_law_1033 (lv_at hl 1 rfl) ?_
    refine o_const (k := 2) hx hb dL_law_1035 (by decide) ?_
    refine o_iadd (k := i + 2) hx hb dL_law_1036 rfl ?_
    refine z_ld (y := y2) hx hb hX hS (show i + 2 < L by omega) ey2 dL_law_1037 ?_
    refine o_wi (va_runV (As := [.int (nI y1), .int (nI y2)]) (rest := []) ⟨hx, hb, hml, hown, hts⟩ (k_X5_has l D cI cR cS cL H.size q mv B y1 y2 (by first | assumption | omega) (by first | assumption | omega) (by first | assumption | omega) (by first | assumption | omega)) (cwV 2 hts gL_law_X5_has rfl rfl rfl (by decide +kernel) ⟨Nat.le_of_ble_eq_true rfl, Nat.le_of_ble_eq_true rfl⟩) (o_v (o_pB hK hN (hP.sub (ws' := (wM q cI mv)) [0, 1, 2, 3, 4] rfl) (hD.sub (ws' := (wM q cI mv)) [0, 1, 2, 3, 4] (by decide +kernel) rfl)) (va_recv hK hP (ci := 5) (q0 := 0) rfl rfl)) rfl rfl hl.1 rfl (lv_room (Nat.le_of_ble_eq_true rfl)) dL_law_1038 ⟨show cells + 1 + 0 ≤ 601024 by omega, show slots + 6 + 0 ≤ 7293034 by omega⟩) hP hD hS hA [0, 1, 2, 3, 4] (by decide +kernel) rfl (fun _ => rfl) (fun r2 _ H locs e2 hP hD hS => ?_)
    have hP : va_P D vwCl (z_W q o cI cR cS cL a u x v (va_up mv 0 (va_up (mv 0) 2 (if y1 < 4 ∧ y2 < 5 then 0 else 1))) V) H := hP
    have hD : va_D (z_A s) (z_W q o cI cR cS cL a u x v (va_up mv 0 (va_up (mv 0) 2 (if y1 < 4 ∧ y2 < 5 then 0 else 1))) V) := hD
    rw [ec] at hP hD
    refine lv_istore (lv' := [(6, .int r2), (5, .int (nI 1)), (4, .int (nI i)), (0, .ref sb), (1, .ref (o 0)), (2, .ref (q 0)), (3, .ref a)]) hx hb dL_law_1041 hl (by decide) rfl (fun ls hl => ?_)
    refine lv_aload_n hx hb dL_law_1043 rfl (lv_at hl 5 rfl) ?_
    refine o_ri (va_runV (As := []) (rest := []) ⟨hx, hb, hml, hown, hts⟩ (k_X5_thrown l D cI cR cS cL q (va_up mv 0 (va_up (mv 0) 2 1))) (cwV 0 hts gL_law_X5_thrown rfl rfl rfl (by decide +kernel) ⟨Nat.le_of_ble_eq_true rfl, Nat.le_of_ble_eq_true rfl⟩) (o_v (o_pR hK hN (hP.sub (ws' := (wM q cI (va_up mv 0 (va_up (mv 0) 2 1)))) [0, 1, 2, 3, 4] rfl)) (va_recv hK hP (ci := 5) (q0 := 0) rfl rfl)) rfl rfl hl.1 rfl (lv_room (Nat.le_of_ble_eq_true rfl)) dL_law_1044 ⟨show cells + 1 + 0 ≤ 601024 by omega, show slots + 6 + 0 ≤ 7293034 by omega⟩) (fun r3 e3 => ?_)
    have e3 : r3 = nI 1 := e3.trans (congrArg nI (rfl : _ = 1))
    subst e3
    refine lv_iload hx hb dL_law_1047 (lv_at hl 1 rfl) ?_
    refine o_icmp_eq (tgt := 1054) hx hb dL_law_1049 (by decide) (Nat.le_of_ble_eq_true rfl) (Nat.le_of_ble_eq_true rfl) (fun _ => ?_) (fun z => absurd rfl z)
    refine lv_iload hx hb dL_law_1054 (lv_at hl 1 rfl) ?_
    refine o_if_ne (a := 1) (tgt := 1071) hx hb dL_law_1056 (by decide) (Nat.le_of_ble_eq_true rfl) (fun _ => ?_) (fun z => absurd z (by decide))
    refine lv_goto (tgt := 1310) hx hb dL_law_1071 (by decide) ?_
    refine W.widen (k := cells + 1) (n := slots + 6) (by omega) (by omega) ?_
    exact K _ _ _ _ _ _ _ _ ⟨hP, hD, hS, g_thr G (by omega) 1⟩ (z_drop hl)
set_option maxHeartbeats 4000000 in
set_option maxRecDepth 100000 in
theorem z_count {p : Program} {l : Launch} {e : Env} {s : State} {m : MethodId} {args : Array Value} {below : List Frame} {meth : Method} {c : Code} {Q : State → Prop} {D : va_G} {cI cR cS cL : ClassId} {sb L : Nat} {xs : Nat → Int32} {q o : Nat → Nat} {a i B cells slots : Nat} {H : Heap} {locs : List Loc} {ls : Array Slot} {x v mv : Nat → Nat → Nat} {V : Nat → Nat → Nat → Nat} {g : Nat → Int64} (C : z_C p l s m args c D cI cR cS cL sb L xs) (h : z_S s D q o cI cR cS cL a g x v mv V B H locs) (hl : lv_has ls 9 (z_L i sb a o q)) (hi : i + 3 ≤ L) (hB : B < 2 ^ 27) (hc : cells + 1 ≤ 601024) (hsl : slots + 6 ≤ 7293034) (K : z_N p l e s m args below meth c Q D cI cR cS cL sb q o a i (B + 60) (cells + 1) (slots + 6)) : W p l e room_1 s m args below meth c H locs cells slots Q (F0 m 1074 ls []) := by
  obtain ⟨hx, hb, hml, hown, hts, hK, hfl, hX, hG⟩ := C
  obtain ⟨hP, hD, hS, G⟩ := h
  obtain ⟨hR, hSI, hI, -, -⟩ := id G
  obtain ⟨⟨gx0, gx1, gx2⟩, ⟨gx3, gx4, gx5⟩, hx1, hm3, hVI⟩ := g_x G
  have hN := hG.1
  have hA : ∀ q : Nat, s.heap.size ≤ q → z_A s q := fun _ h => h
  have hB28 : B < 2 ^ 28 := by omega
  have hs6 : mv 0 0 ≤ 6 := by omega
  have h60 : mv 0 1 ≤ 60 := by omega
  obtain ⟨y1, hy1, ey1⟩ := o_of (xs (i + 1))
  by_cases hc1 : y1 < 9
  · skip
    have ec : (if y1 < 9 then 0 else 1 : Nat) = 0 := by rw [if_pos hc1]
    refine lv_aload_n hx hb dL_law_1074 rfl (lv_at hl 2 rfl) ?_
    refine lv_aload_n hx hb dL_law_1075 rfl (lv_at hl 1 rfl) ?_
    refine lv_iload hx hb dL_law_1076 (lv_at hl 0 rfl) ?_
    refine o_const (k := 1) hx hb dL_law_1078 (by decide) ?_
    refine o_iadd (k := i + 1) hx hb dL_law_1079 rfl ?_
    refine z_ld (y := y1) hx hb hX hS (show i + 1 < L by omega) ey1 dL_law_1080 ?_
    refine lv_aload_n hx hb dL_law_1081 rfl (lv_at hl 4 rfl) ?_
    refine o_xiT (wM q cI mv) (vx_runSX (As := [.ref (o 0), .int (nI y1), .ref a]) (rest := []) ⟨hx, hb, hml, hown, hts⟩ (l_count_0 l D cI cR cS cL H.size o x v (wV o cI cR V) B y1 a g (by first | assumption | omega) (by first | assumption | omega) (by first | assumption | omega)) (vx_cwSW 3 hts gL_law_L_count rfl rfl rfl (by decide +kernel) ⟨Nat.le_of_ble_eq_true rfl, Nat.le_of_ble_eq_true rfl⟩) (o_pF (W := [ol cL a 1 g] ++ (wO o cI cR cS x v (wV o cI cR V))) hK (hG.kept hS) (o_PT (pre := (wM q cI mv)) (ws := [ol cL a 1 g] ++ (wO o cI cR cS x v (wV o cI cR V))) hP) (o_DT (pre := (wM q cI mv)) (ws := [ol cL a 1 g] ++ (wO o cI cR cS x v (wV o cI cR V))) hD) (va_free hD hS hA _ (o_getT (wM q cI mv) ([ol cL a 1 g] ++ (wO o cI cR cS x v (wV o cI cR V)))))) rfl rfl hl.1 rfl (lv_room (Nat.le_of_ble_eq_true rfl)) dL_law_1082 ⟨show cells + 0 ≤ 601024 by omega, show slots + 0 ≤ 7293034 by omega⟩) hP hD hS hA (fun _ => rfl) (fun r1 u H locs e1 hP8 hD8 hS => ?_)
    obtain ⟨er1, hu⟩ := e1
    have er1 : r1 = nI 0 := er1
    subst er1
    have hu : u 0 = (nI (c_cnt v (x 0 4) y1)).toInt64 := hu
    have hP := hP8
    have hD := hD8
    have hP : va_P D vwCl (z_W q o cI cR cS cL a u x v mv V) H := hP
    have hD : va_D (z_A s) (z_W q o cI cR cS cL a u x v mv V) := hD
    refine lv_istore (lv' := [(5, .int (nI 0)), (4, .int (nI i)), (0, .ref sb), (1, .ref (o 0)), (2, .ref (q 0)), (3, .ref a)]) hx hb dL_law_1085 hl (by decide) rfl (fun ls hl => ?_)
    refine lv_aload_n hx hb dL_law_1087 rfl (lv_at hl 4 rfl) ?_
    refine lv_aload_n hx hb dL_law_1088 rfl (lv_at hl 2 rfl) ?_
    refine lv_iload hx hb dL_law_1089 (lv_at hl 1 rfl) ?_
    refine o_const (k := 1) hx hb dL_law_1091 (by decide) ?_
    refine o_iadd (k := i + 1) hx hb dL_law_1092 rfl ?_
    refine z_ld (y := y1) hx hb hX hS (show i + 1 < L by omega) ey1 dL_law_1093 ?_
    refine o_wi (va_runV (As := [.int (nI y1)]) (rest := []) ⟨hx, hb, hml, hown, hts⟩ (k_X5_count l D cI cR cS cL H.size q mv B y1 (by first | assumption | omega) (by first | assumption | omega) (by first | assumption | omega)) (cwV 1 hts gL_law_X5_count rfl rfl rfl (by decide +kernel) ⟨Nat.le_of_ble_eq_true rfl, Nat.le_of_ble_eq_true rfl⟩) (o_v (o_pB hK hN (hP.sub (ws' := (wM q cI mv)) [0, 1, 2, 3, 4] rfl) (hD.sub (ws' := (wM q cI mv)) [0, 1, 2, 3, 4] (by decide +kernel) rfl)) (va_recv hK hP (ci := 5) (q0 := 0) rfl rfl)) rfl rfl hl.1 rfl (lv_room (Nat.le_of_ble_eq_true rfl)) dL_law_1094 ⟨show cells + 0 + 0 ≤ 601024 by omega, show slots + 0 + 0 ≤ 7293034 by omega⟩) hP hD hS hA [0, 1, 2, 3, 4] (by decide +kernel) rfl (fun _ => rfl) (fun r2 _ H locs e2 hP hD hS => ?_)
    have hP : va_P D vwCl (z_W q o cI cR cS cL a u x v (va_up mv 0 (va_up (mv 0) 2 (if y1 < 9 then 0 else 1))) V) H := hP
    have hD : va_D (z_A s) (z_W q o cI cR cS cL a u x v (va_up mv 0 (va_up (mv 0) 2 (if y1 < 9 then 0 else 1))) V) := hD
    rw [ec] at hP hD
    have e2 : r2 = nI (if y1 < 9 then m_cnt (mv 1) (mv 0 0) y1 else 0) := e2
    have er : (if y1 < 9 then m_cnt (mv 1) (mv 0 0) y1 else 0) = (c_cnt v (x 0 4) y1) := by rw [if_pos hc1, ← gx5]; exact (p_cnt hR hI hc1).symm
    rw [er] at e2
    subst e2
    refine lv_istore (lv' := [(6, .int (nI (c_cnt v (x 0 4) y1))), (5, .int (nI 0)), (4, .int (nI i)), (0, .ref sb), (1, .ref (o 0)), (2, .ref (q 0)), (3, .ref a)]) hx hb dL_law_1097 hl (by decide) rfl (fun ls hl => ?_)
    refine lv_aload_n hx hb dL_law_1099 rfl (lv_at hl 5 rfl) ?_
    refine o_ri (va_runV (As := []) (rest := []) ⟨hx, hb, hml, hown, hts⟩ (k_X5_thrown l D cI cR cS cL q (va_up mv 0 (va_up (mv 0) 2 0))) (cwV 0 hts gL_law_X5_thrown rfl rfl rfl (by decide +kernel) ⟨Nat.le_of_ble_eq_true rfl, Nat.le_of_ble_eq_true rfl⟩) (o_v (o_pR hK hN (hP.sub (ws' := (wM q cI (va_up mv 0 (va_up (mv 0) 2 0)))) [0, 1, 2, 3, 4] rfl)) (va_recv hK hP (ci := 5) (q0 := 0) rfl rfl)) rfl rfl hl.1 rfl (lv_room (Nat.le_of_ble_eq_true rfl)) dL_law_1100 ⟨show cells + 0 + 0 ≤ 601024 by omega, show slots + 0 + 0 ≤ 7293034 by omega⟩) (fun r3 e3 => ?_)
    have e3 : r3 = nI 0 := e3.trans (congrArg nI (rfl : _ = 0))
    subst e3
    refine lv_iload hx hb dL_law_1103 (lv_at hl 1 rfl) ?_
    refine o_icmp_eq (tgt := 1110) hx hb dL_law_1105 (by decide) (Nat.le_of_ble_eq_true rfl) (Nat.le_of_ble_eq_true rfl) (fun _ => ?_) (fun z => absurd rfl z)
    refine lv_iload hx hb dL_law_1110 (lv_at hl 1 rfl) ?_
    refine o_if_ne (a := 0) (tgt := 1127) hx hb dL_law_1112 (by decide) (Nat.le_of_ble_eq_true rfl) (fun z => absurd rfl z) (fun _ => ?_)
    refine lv_aload_n hx hb dL_law_1115 rfl (lv_at hl 6 rfl) ?_
    refine o_const (k := 0) hx hb dL_law_1116 (by decide) ?_
    refine va_lald hx hb hK hP 5 3 rfl rfl (vp_in_nI (by decide) (by decide)) dL_law_1117 ?_
    refine o_tl (congrArg u (nI_clamp (show 0 < 2 ^ 31 by decide))) ?_
    refine lv_iload hx hb dL_law_1118 (lv_at hl 0 rfl) ?_
    refine lv_i2l (v := (nI (c_cnt v (x 0 4) y1)).toInt64) hx hb dL_law_1120 rfl ?_
    refine W.lcmp hx hb dL_law_1121 ?_
    refine o_ti (z_cmp hu) ?_
    refine o_if_eq (a := 0) (tgt := 1127) hx hb dL_law_1122 (by decide) (Nat.le_of_ble_eq_true rfl) (fun _ => ?_) (fun z => absurd rfl z)
    refine lv_goto (tgt := 1310) hx hb dL_law_1127 (by decide) ?_
    refine W.widen (k := cells + 1) (n := slots + 6) (by omega) (by omega) ?_
    exact K _ _ _ _ _ _ _ _ ⟨hP, hD, hS, g_thr G (by omega) 0⟩ (z_drop hl)
  · skip
    have ec : (if y1 < 9 then 0 else 1 : Nat) = 1 := by rw [if_neg hc1]
    refine lv_aload_n hx hb dL_law_1074 rfl (lv_at hl 2 rfl) ?_
    refine lv_aload_n hx hb dL_law_1075 rfl (lv_at hl 1 rfl) ?_
    refine lv_iload hx hb dL_law_1076 (lv_at hl 0 rfl) ?_
    refine o_const (k := 1) hx hb dL_law_1078 (by decide) ?_
    refine o_iadd (k := i + 1) hx hb dL_law_1079 rfl ?_
    refine z_ld (y := y1) hx hb hX hS (show i + 1 < L by omega) ey1 dL_law_1080 ?_
    refine lv_aload_n hx hb dL_law_1081 rfl (lv_at hl 4 rfl) ?_
    refine o_xiT (wM q cI mv) (vx_runSX (As := [.ref (o 0), .int (nI y1), .ref a]) (rest := []) ⟨hx, hb, hml, hown, hts⟩ (l_count_1 l D cI cR cS cL hfl H.size o x v (wV o cI cR V) B y1 a g (by first | assumption | omega) (by first | assumption | omega)) (vx_cwSW 3 hts gL_law_L_count rfl rfl rfl (by decide +kernel) ⟨Nat.le_of_ble_eq_true rfl, Nat.le_of_ble_eq_true rfl⟩) (o_pF (W := [ol cL a 1 g] ++ (wO o cI cR cS x v (wV o cI cR V))) hK (hG.kept hS) (o_PT (pre := (wM q cI mv)) (ws := [ol cL a 1 g] ++ (wO o cI cR cS x v (wV o cI cR V))) hP) (o_DT (pre := (wM q cI mv)) (ws := [ol cL a 1 g] ++ (wO o cI cR cS x v (wV o cI cR V))) hD) (va_free hD hS hA _ (o_getT (wM q cI mv) ([ol cL a 1 g] ++ (wO o cI cR cS x v (wV o cI cR V)))))) rfl rfl hl.1 rfl (lv_room (Nat.le_of_ble_eq_true rfl)) dL_law_1082 ⟨show cells + 1 ≤ 601024 by omega, show slots + 6 ≤ 7293034 by omega⟩) hP hD hS hA (fun _ => rfl) (fun r1 u H locs e1 hP8 hD8 hS => ?_)
    obtain ⟨er1, hu⟩ := e1
    have er1 : r1 = nI 1 := er1
    subst er1
    subst hu
    have hP := hP8
    have hD := hD8
    have hP : va_P D vwCl (z_W q o cI cR cS cL a u x v mv V) H := hP
    have hD : va_D (z_A s) (z_W q o cI cR cS cL a u x v mv V) := hD
    refine lv_istore (lv' := [(5, .int (nI 1)), (4, .int (nI i)), (0, .ref sb), (1, .ref (o 0)), (2, .ref (q 0)), (3, .ref a)]) hx hb dL_law_1085 hl (by decide) rfl (fun ls hl => ?_)
    refine lv_aload_n hx hb dL_law_1087 rfl (lv_at hl 4 rfl) ?_
    refine lv_aload_n hx hb dL_law_1088 rfl (lv_at hl 2 rfl) ?_
    refine lv_iload hx hb dL_law_1089 (lv_at hl 1 rfl) ?_
    refine o_const (k := 1) hx hb dL_law_1091 (by decide) ?_
    refine o_iadd (k := i + 1) hx hb dL_law_1092 rfl ?_
    refine z_ld (y := y1) hx hb hX hS (show i + 1 < L by omega) ey1 dL_law_1093 ?_
    refine o_wi (va_runV (As := [.int (nI y1)]) (rest := []) ⟨hx, hb, hml, hown, hts⟩ (k_X5_count l D cI cR cS cL H.size q mv B y1 (by first | assumption | omega) (by first | assumption | omega) (by first | assumption | omega)) (cwV 1 hts gL_law_X5_count rfl rfl rfl (by decide +kernel) ⟨Nat.le_of_ble_eq_true rfl, Nat.le_of_ble_eq_true rfl⟩) (o_v (o_pB hK hN (hP.sub (ws' := (wM q cI mv)) [0, 1, 2, 3, 4] rfl) (hD.sub (ws' := (wM q cI mv)) [0, 1, 2, 3, 4] (by decide +kernel) rfl)) (va_recv hK hP (ci := 5) (q0 := 0) rfl rfl)) rfl rfl hl.1 rfl (lv_room (Nat.le_of_ble_eq_true rfl)) dL_law_1094 ⟨show cells + 1 + 0 ≤ 601024 by omega, show slots + 6 + 0 ≤ 7293034 by omega⟩) hP hD hS hA [0, 1, 2, 3, 4] (by decide +kernel) rfl (fun _ => rfl) (fun r2 _ H locs e2 hP hD hS => ?_)
    have hP : va_P D vwCl (z_W q o cI cR cS cL a u x v (va_up mv 0 (va_up (mv 0) 2 (if y1 < 9 then 0 else 1))) V) H := hP
    have hD : va_D (z_A s) (z_W q o cI cR cS cL a u x v (va_up mv 0 (va_up (mv 0) 2 (if y1 < 9 then 0 else 1))) V) := hD
    rw [ec] at hP hD
    refine lv_istore (lv' := [(6, .int r2), (5, .int (nI 1)), (4, .int (nI i)), (0, .ref sb), (1, .ref (o 0)), (2, .ref (q 0)), (3, .ref a)]) hx hb dL_law_1097 hl (by decide) rfl (fun ls hl => ?_)
    refine lv_aload_n hx hb dL_law_1099 rfl (lv_at hl 5 rfl) ?_
    refine o_ri (va_runV (As := []) (rest := []) ⟨hx, hb, hml, hown, hts⟩ (k_X5_thrown l D cI cR cS cL q (va_up mv 0 (va_up (mv 0) 2 1))) (cwV 0 hts gL_law_X5_thrown rfl rfl rfl (by decide +kernel) ⟨Nat.le_of_ble_eq_true rfl, Nat.le_of_ble_eq_true rfl⟩) (o_v (o_pR hK hN (hP.sub (ws' := (wM q cI (va_up mv 0 (va_up (mv 0) 2 1)))) [0, 1, 2, 3, 4] rfl)) (va_recv hK hP (ci := 5) (q0 := 0) rfl rfl)) rfl rfl hl.1 rfl (lv_room (Nat.le_of_ble_eq_true rfl)) dL_law_1100 ⟨show cells + 1 + 0 ≤ 601024 by omega, show slots + 6 + 0 ≤ 7293034 by omega⟩) (fun r3 e3 => ?_)
    have e3 : r3 = nI 1 := e3.trans (congrArg nI (rfl : _ = 1))
    subst e3
    refine lv_iload hx hb dL_law_1103 (lv_at hl 1 rfl) ?_
    refine o_icmp_eq (tgt := 1110) hx hb dL_law_1105 (by decide) (Nat.le_of_ble_eq_true rfl) (Nat.le_of_ble_eq_true rfl) (fun _ => ?_) (fun z => absurd rfl z)
    refine lv_iload hx hb dL_law_1110 (lv_at hl 1 rfl) ?_
    refine o_if_ne (a := 1) (tgt := 1127) hx hb dL_law_1112 (by decide) (Nat.le_of_ble_eq_true rfl) (fun _ => ?_) (fun z => absurd z (by decide))
    refine lv_goto (tgt := 1310) hx hb dL_law_1127 (by decide) ?_
    refine W.widen (k := cells + 1) (n := slots + 6) (by omega) (by omega) ?_
    exact K _ _ _ _ _ _ _ _ ⟨hP, hD, hS, g_thr G (by omega) 1⟩ (z_drop hl)
set_option maxHeartbeats 4000000 in
set_option maxRecDepth 100000 in
theorem z_ifRead {p : Program} {l : Launch} {e : Env} {s : State} {m : MethodId} {args : Array Value} {below : List Frame} {meth : Method} {c : Code} {Q : State → Prop} {D : va_G} {cI cR cS cL : ClassId} {sb L : Nat} {xs : Nat → Int32} {q o : Nat → Nat} {a i B cells slots : Nat} {H : Heap} {locs : List Loc} {ls : Array Slot} {x v mv : Nat → Nat → Nat} {V : Nat → Nat → Nat → Nat} {g : Nat → Int64} (C : z_C p l s m args c D cI cR cS cL sb L xs) (h : z_S s D q o cI cR cS cL a g x v mv V B H locs) (hl : lv_has ls 9 (z_L i sb a o q)) (hi : i + 3 ≤ L) (hB : B < 2 ^ 27) (hc : cells + 1 ≤ 601024) (hsl : slots + 6 ≤ 7293034) (K : z_N p l e s m args below meth c Q D cI cR cS cL sb q o a i (B + 60) (cells + 1) (slots + 6)) : W p l e room_1 s m args below meth c H locs cells slots Q (F0 m 1130 ls []) := by
  obtain ⟨hx, hb, hml, hown, hts, hK, hfl, hX, hG⟩ := C
  obtain ⟨hP, hD, hS, G⟩ := h
  obtain ⟨hR, hSI, hI, -, -⟩ := id G
  obtain ⟨⟨gx0, gx1, gx2⟩, ⟨gx3, gx4, gx5⟩, hx1, hm3, hVI⟩ := g_x G
  have hN := hG.1
  have hA : ∀ q : Nat, s.heap.size ≤ q → z_A s q := fun _ h => h
  have hB28 : B < 2 ^ 28 := by omega
  have hs6 : mv 0 0 ≤ 6 := by omega
  have h60 : mv 0 1 ≤ 60 := by omega
  obtain ⟨y1, hy1, ey1⟩ := o_of (xs (i + 1))
  by_cases hc1 : y1 < 4
  · skip
    have ec : (if y1 < 4 then 0 else 1 : Nat) = 0 := by rw [if_pos hc1]
    refine lv_aload_n hx hb dL_law_1130 rfl (lv_at hl 2 rfl) ?_
    refine lv_aload_n hx hb dL_law_1131 rfl (lv_at hl 1 rfl) ?_
    refine lv_iload hx hb dL_law_1132 (lv_at hl 0 rfl) ?_
    refine o_const (k := 1) hx hb dL_law_1134 (by decide) ?_
    refine o_iadd (k := i + 1) hx hb dL_law_1135 rfl ?_
    refine z_ld (y := y1) hx hb hX hS (show i + 1 < L by omega) ey1 dL_law_1136 ?_
    refine lv_aload_n hx hb dL_law_1137 rfl (lv_at hl 4 rfl) ?_
    refine o_xiT (wM q cI mv) (vx_runSX (As := [.ref (o 0), .int (nI y1), .ref a]) (rest := []) ⟨hx, hb, hml, hown, hts⟩ (l_ifRead_0 l D cI cR cS cL H.size o x v (wV o cI cR V) B y1 a g (by first | assumption | omega) (by first | assumption | omega) (by first | assumption | omega)) (vx_cwSW 3 hts gL_law_L_ifRead rfl rfl rfl (by decide +kernel) ⟨Nat.le_of_ble_eq_true rfl, Nat.le_of_ble_eq_true rfl⟩) (o_pF (W := [ol cL a 1 g] ++ (wO o cI cR cS x v (wV o cI cR V))) hK (hG.kept hS) (o_PT (pre := (wM q cI mv)) (ws := [ol cL a 1 g] ++ (wO o cI cR cS x v (wV o cI cR V))) hP) (o_DT (pre := (wM q cI mv)) (ws := [ol cL a 1 g] ++ (wO o cI cR cS x v (wV o cI cR V))) hD) (va_free hD hS hA _ (o_getT (wM q cI mv) ([ol cL a 1 g] ++ (wO o cI cR cS x v (wV o cI cR V)))))) rfl rfl hl.1 rfl (lv_room (Nat.le_of_ble_eq_true rfl)) dL_law_1138 ⟨show cells + 0 ≤ 601024 by omega, show slots + 0 ≤ 7293034 by omega⟩) hP hD hS hA (fun _ => rfl) (fun r1 u H locs e1 hP8 hD8 hS => ?_)
    obtain ⟨er1, hu⟩ := e1
    have er1 : r1 = nI 0 := er1
    subst er1
    have hu : u 0 = (nI (s_out v y1)).toInt64 := hu
    have hP := hP8
    have hD := hD8
    have hP : va_P D vwCl (z_W q o cI cR cS cL a u x v mv V) H := hP
    have hD : va_D (z_A s) (z_W q o cI cR cS cL a u x v mv V) := hD
    refine lv_istore (lv' := [(5, .int (nI 0)), (4, .int (nI i)), (0, .ref sb), (1, .ref (o 0)), (2, .ref (q 0)), (3, .ref a)]) hx hb dL_law_1141 hl (by decide) rfl (fun ls hl => ?_)
    refine lv_aload_n hx hb dL_law_1143 rfl (lv_at hl 4 rfl) ?_
    refine lv_aload_n hx hb dL_law_1144 rfl (lv_at hl 2 rfl) ?_
    refine lv_iload hx hb dL_law_1145 (lv_at hl 1 rfl) ?_
    refine o_const (k := 1) hx hb dL_law_1147 (by decide) ?_
    refine o_iadd (k := i + 1) hx hb dL_law_1148 rfl ?_
    refine z_ld (y := y1) hx hb hX hS (show i + 1 < L by omega) ey1 dL_law_1149 ?_
    refine o_wi (va_runV (As := [.int (nI y1)]) (rest := []) ⟨hx, hb, hml, hown, hts⟩ (k_X5_ifRead l D cI cR cS cL H.size q mv B y1 (by first | assumption | omega) (by first | assumption | omega) (by first | assumption | omega)) (cwV 1 hts gL_law_X5_ifRead rfl rfl rfl (by decide +kernel) ⟨Nat.le_of_ble_eq_true rfl, Nat.le_of_ble_eq_true rfl⟩) (o_v (o_pB hK hN (hP.sub (ws' := (wM q cI mv)) [0, 1, 2, 3, 4] rfl) (hD.sub (ws' := (wM q cI mv)) [0, 1, 2, 3, 4] (by decide +kernel) rfl)) (va_recv hK hP (ci := 5) (q0 := 0) rfl rfl)) rfl rfl hl.1 rfl (lv_room (Nat.le_of_ble_eq_true rfl)) dL_law_1150 ⟨show cells + 0 + 0 ≤ 601024 by omega, show slots + 0 + 0 ≤ 7293034 by omega⟩) hP hD hS hA [0, 1, 2, 3, 4] (by decide +kernel) rfl (fun _ => rfl) (fun r2 _ H locs e2 hP hD hS => ?_)
    have hP : va_P D vwCl (z_W q o cI cR cS cL a u x v (va_up mv 0 (va_up (mv 0) 2 (if y1 < 4 then 0 else 1))) V) H := hP
    have hD : va_D (z_A s) (z_W q o cI cR cS cL a u x v (va_up mv 0 (va_up (mv 0) 2 (if y1 < 4 then 0 else 1))) V) := hD
    rw [ec] at hP hD
    have e2 : r2 = nI (if y1 < 4 then m_tries (mv 1) y1 else 0) := e2
    have er : (if y1 < 4 then m_tries (mv 1) y1 else 0) = (s_out v y1) := by rw [if_pos hc1]; exact (p_out hR hI hc1).symm
    rw [er] at e2
    subst e2
    refine lv_istore (lv' := [(6, .int (nI (s_out v y1))), (5, .int (nI 0)), (4, .int (nI i)), (0, .ref sb), (1, .ref (o 0)), (2, .ref (q 0)), (3, .ref a)]) hx hb dL_law_1153 hl (by decide) rfl (fun ls hl => ?_)
    refine lv_aload_n hx hb dL_law_1155 rfl (lv_at hl 5 rfl) ?_
    refine o_ri (va_runV (As := []) (rest := []) ⟨hx, hb, hml, hown, hts⟩ (k_X5_thrown l D cI cR cS cL q (va_up mv 0 (va_up (mv 0) 2 0))) (cwV 0 hts gL_law_X5_thrown rfl rfl rfl (by decide +kernel) ⟨Nat.le_of_ble_eq_true rfl, Nat.le_of_ble_eq_true rfl⟩) (o_v (o_pR hK hN (hP.sub (ws' := (wM q cI (va_up mv 0 (va_up (mv 0) 2 0)))) [0, 1, 2, 3, 4] rfl)) (va_recv hK hP (ci := 5) (q0 := 0) rfl rfl)) rfl rfl hl.1 rfl (lv_room (Nat.le_of_ble_eq_true rfl)) dL_law_1156 ⟨show cells + 0 + 0 ≤ 601024 by omega, show slots + 0 + 0 ≤ 7293034 by omega⟩) (fun r3 e3 => ?_)
    have e3 : r3 = nI 0 := e3.trans (congrArg nI (rfl : _ = 0))
    subst e3
    refine lv_iload hx hb dL_law_1159 (lv_at hl 1 rfl) ?_
    refine o_icmp_eq (tgt := 1166) hx hb dL_law_1161 (by decide) (Nat.le_of_ble_eq_true rfl) (Nat.le_of_ble_eq_true rfl) (fun _ => ?_) (fun z => absurd rfl z)
    refine lv_iload hx hb dL_law_1166 (lv_at hl 1 rfl) ?_
    refine o_if_ne (a := 0) (tgt := 1183) hx hb dL_law_1168 (by decide) (Nat.le_of_ble_eq_true rfl) (fun z => absurd rfl z) (fun _ => ?_)
    refine lv_aload_n hx hb dL_law_1171 rfl (lv_at hl 6 rfl) ?_
    refine o_const (k := 0) hx hb dL_law_1172 (by decide) ?_
    refine va_lald hx hb hK hP 5 3 rfl rfl (vp_in_nI (by decide) (by decide)) dL_law_1173 ?_
    refine o_tl (congrArg u (nI_clamp (show 0 < 2 ^ 31 by decide))) ?_
    refine lv_iload hx hb dL_law_1174 (lv_at hl 0 rfl) ?_
    refine lv_i2l (v := (nI (s_out v y1)).toInt64) hx hb dL_law_1176 rfl ?_
    refine W.lcmp hx hb dL_law_1177 ?_
    refine o_ti (z_cmp hu) ?_
    refine o_if_eq (a := 0) (tgt := 1183) hx hb dL_law_1178 (by decide) (Nat.le_of_ble_eq_true rfl) (fun _ => ?_) (fun z => absurd rfl z)
    refine lv_goto (tgt := 1310) hx hb dL_law_1183 (by decide) ?_
    refine W.widen (k := cells + 1) (n := slots + 6) (by omega) (by omega) ?_
    exact K _ _ _ _ _ _ _ _ ⟨hP, hD, hS, g_thr G (by omega) 0⟩ (z_drop hl)
  · skip
    have ec : (if y1 < 4 then 0 else 1 : Nat) = 1 := by rw [if_neg hc1]
    refine lv_aload_n hx hb dL_law_1130 rfl (lv_at hl 2 rfl) ?_
    refine lv_aload_n hx hb dL_law_1131 rfl (lv_at hl 1 rfl) ?_
    refine lv_iload hx hb dL_law_1132 (lv_at hl 0 rfl) ?_
    refine o_const (k := 1) hx hb dL_law_1134 (by decide) ?_
    refine o_iadd (k := i + 1) hx hb dL_law_1135 rfl ?_
    refine z_ld (y := y1) hx hb hX hS (show i + 1 < L by omega) ey1 dL_law_1136 ?_
    refine lv_aload_n hx hb dL_law_1137 rfl (lv_at hl 4 rfl) ?_
    refine o_xiT (wM q cI mv) (vx_runSX (As := [.ref (o 0), .int (nI y1), .ref a]) (rest := []) ⟨hx, hb, hml, hown, hts⟩ (l_ifRead_1 l D cI cR cS cL hfl H.size o x v (wV o cI cR V) B y1 a g (by first | assumption | omega) (by first | assumption | omega)) (vx_cwSW 3 hts gL_law_L_ifRead rfl rfl rfl (by decide +kernel) ⟨Nat.le_of_ble_eq_true rfl, Nat.le_of_ble_eq_true rfl⟩) (o_pF (W := [ol cL a 1 g] ++ (wO o cI cR cS x v (wV o cI cR V))) hK (hG.kept hS) (o_PT (pre := (wM q cI mv)) (ws := [ol cL a 1 g] ++ (wO o cI cR cS x v (wV o cI cR V))) hP) (o_DT (pre := (wM q cI mv)) (ws := [ol cL a 1 g] ++ (wO o cI cR cS x v (wV o cI cR V))) hD) (va_free hD hS hA _ (o_getT (wM q cI mv) ([ol cL a 1 g] ++ (wO o cI cR cS x v (wV o cI cR V)))))) rfl rfl hl.1 rfl (lv_room (Nat.le_of_ble_eq_true rfl)) dL_law_1138 ⟨show cells + 1 ≤ 601024 by omega, show slots + 6 ≤ 7293034 by omega⟩) hP hD hS hA (fun _ => rfl) (fun r1 u H locs e1 hP8 hD8 hS => ?_)
    obtain ⟨er1, hu⟩ := e1
    have er1 : r1 = nI 1 := er1
    subst er1
    subst hu
    have hP := hP8
    have hD := hD8
    have hP : va_P D vwCl (z_W q o cI cR cS cL a u x v mv V) H := hP
    have hD : va_D (z_A s) (z_W q o cI cR cS cL a u x v mv V) := hD
    refine lv_istore (lv' := [(5, .int (nI 1)), (4, .int (nI i)), (0, .ref sb), (1, .ref (o 0)), (2, .ref (q 0)), (3, .ref a)]) hx hb dL_law_1141 hl (by decide) rfl (fun ls hl => ?_)
    refine lv_aload_n hx hb dL_law_1143 rfl (lv_at hl 4 rfl) ?_
    refine lv_aload_n hx hb dL_law_1144 rfl (lv_at hl 2 rfl) ?_
    refine lv_iload hx hb dL_law_1145 (lv_at hl 1 rfl) ?_
    refine o_const (k := 1) hx hb dL_law_1147 (by decide) ?_
    refine o_iadd (k := i + 1) hx hb dL_law_1148 rfl ?_
    refine z_ld (y := y1) hx hb hX hS (show i + 1 < L by omega) ey1 dL_law_1149 ?_
    refine o_wi (va_runV (As := [.int (nI y1)]) (rest := []) ⟨hx, hb, hml, hown, hts⟩ (k_X5_ifRead l D cI cR cS cL H.size q mv B y1 (by first | assumption | omega) (by first | assumption | omega) (by first | assumption | omega)) (cwV 1 hts gL_law_X5_ifRead rfl rfl rfl (by decide +kernel) ⟨Nat.le_of_ble_eq_true rfl, Nat.le_of_ble_eq_true rfl⟩) (o_v (o_pB hK hN (hP.sub (ws' := (wM q cI mv)) [0, 1, 2, 3, 4] rfl) (hD.sub (ws' := (wM q cI mv)) [0, 1, 2, 3, 4] (by decide +kernel) rfl)) (va_recv hK hP (ci := 5) (q0 := 0) rfl rfl)) rfl rfl hl.1 rfl (lv_room (Nat.le_of_ble_eq_true rfl)) dL_law_1150 ⟨show cells + 1 + 0 ≤ 601024 by omega, show slots + 6 + 0 ≤ 7293034 by omega⟩) hP hD hS hA [0, 1, 2, 3, 4] (by decide +kernel) rfl (fun _ => rfl) (fun r2 _ H locs e2 hP hD hS => ?_)
    have hP : va_P D vwCl (z_W q o cI cR cS cL a u x v (va_up mv 0 (va_up (mv 0) 2 (if y1 < 4 then 0 else 1))) V) H := hP
    have hD : va_D (z_A s) (z_W q o cI cR cS cL a u x v (va_up mv 0 (va_up (mv 0) 2 (if y1 < 4 then 0 else 1))) V) := hD
    rw [ec] at hP hD
    refine lv_istore (lv' := [(6, .int r2), (5, .int (nI 1)), (4, .int (nI i)), (0, .ref sb), (1, .ref (o 0)), (2, .ref (q 0)), (3, .ref a)]) hx hb dL_law_1153 hl (by decide) rfl (fun ls hl => ?_)
    refine lv_aload_n hx hb dL_law_1155 rfl (lv_at hl 5 rfl) ?_
    refine o_ri (va_runV (As := []) (rest := []) ⟨hx, hb, hml, hown, hts⟩ (k_X5_thrown l D cI cR cS cL q (va_up mv 0 (va_up (mv 0) 2 1))) (cwV 0 hts gL_law_X5_thrown rfl rfl rfl (by decide +kernel) ⟨Nat.le_of_ble_eq_true rfl, Nat.le_of_ble_eq_true rfl⟩) (o_v (o_pR hK hN (hP.sub (ws' := (wM q cI (va_up mv 0 (va_up (mv 0) 2 1)))) [0, 1, 2, 3, 4] rfl)) (va_recv hK hP (ci := 5) (q0 := 0) rfl rfl)) rfl rfl hl.1 rfl (lv_room (Nat.le_of_ble_eq_true rfl)) dL_law_1156 ⟨show cells + 1 + 0 ≤ 601024 by omega, show slots + 6 + 0 ≤ 7293034 by omega⟩) (fun r3 e3 => ?_)
    have e3 : r3 = nI 1 := e3.trans (congrArg nI (rfl : _ = 1))
    subst e3
    refine lv_iload hx hb dL_law_1159 (lv_at hl 1 rfl) ?_
    refine o_icmp_eq (tgt := 1166) hx hb dL_law_1161 (by decide) (Nat.le_of_ble_eq_true rfl) (Nat.le_of_ble_eq_true rfl) (fun _ => ?_) (fun z => absurd rfl z)
    refine lv_iload hx hb dL_law_1166 (lv_at hl 1 rfl) ?_
    refine o_if_ne (a := 1) (tgt := 1183) hx hb dL_law_1168 (by decide) (Nat.le_of_ble_eq_true rfl) (fun _ => ?_) (fun z => absurd z (by decide))
    refine lv_goto (tgt := 1310) hx hb dL_law_1183 (by decide) ?_
    refine W.widen (k := cells + 1) (n := slots + 6) (by omega) (by omega) ?_
    exact K _ _ _ _ _ _ _ _ ⟨hP, hD, hS, g_thr G (by omega) 1⟩ (z_drop hl)
set_option maxHeartbeats 4000000 in
set_option maxRecDepth 100000 in
theorem z_wouldBeHalf {p : Program} {l : Launch} {e : Env} {s : State} {m : MethodId} {args : Array Value} {below : List Frame} {meth : Method} {c : Code} {Q : State → Prop} {D : va_G} {cI cR cS cL : ClassId} {sb L : Nat} {xs : Nat → Int32} {q o : Nat → Nat} {a i B cells slots : Nat} {H : Heap} {locs : List Loc} {ls : Array Slot} {x v mv : Nat → Nat → Nat} {V : Nat → Nat → Nat → Nat} {g : Nat → Int64} (C : z_C p l s m args c D cI cR cS cL sb L xs) (h : z_S s D q o cI cR cS cL a g x v mv V B H locs) (hl : lv_has ls 9 (z_L i sb a o q)) (hi : i + 3 ≤ L) (hB : B < 2 ^ 27) (hc : cells + 1 ≤ 601024) (hsl : slots + 6 ≤ 7293034) (K : z_N p l e s m args below meth c Q D cI cR cS cL sb q o a i (B + 60) (cells + 1) (slots + 6)) : W p l e room_1 s m args below meth c H locs cells slots Q (F0 m 1186 ls []) := by
  obtain ⟨hx, hb, hml, hown, hts, hK, hfl, hX, hG⟩ := C
  obtain ⟨hP, hD, hS, G⟩ := h
  obtain ⟨hR, hSI, hI, -, -⟩ := id G
  obtain ⟨⟨gx0, gx1, gx2⟩, ⟨gx3, gx4, gx5⟩, hx1, hm3, hVI⟩ := g_x G
  have hN := hG.1
  have hA : ∀ q : Nat, s.heap.size ≤ q → z_A s q := fun _ h => h
  have hB28 : B < 2 ^ 28 := by omega
  have hs6 : mv 0 0 ≤ 6 := by omega
  have h60 : mv 0 1 ≤ 60 := by omega
  obtain ⟨y1, hy1, ey1⟩ := o_of (xs (i + 1))
  by_cases hc1 : y1 < 4
  · skip
    have ec : (if y1 < 4 then 0 else 1 : Nat) = 0 := by rw [if_pos hc1]
    refine lv_aload_n hx hb dL_law_1186 rfl (lv_at hl 2 rfl) ?_
    refine lv_aload_n hx hb dL_law_1187 rfl (lv_at hl 1 rfl) ?_
    refine lv_iload hx hb dL_law_1188 (lv_at hl 0 rfl) ?_
    refine o_const (k := 1) hx hb dL_law_1190 (by decide) ?_
    refine o_iadd (k := i + 1) hx hb dL_law_1191 rfl ?_
    refine z_ld (y := y1) hx hb hX hS (show i + 1 < L by omega) ey1 dL_law_1192 ?_
    refine lv_aload_n hx hb dL_law_1193 rfl (lv_at hl 4 rfl) ?_
    refine o_xiT (wM q cI mv) (vx_runSX (As := [.ref (o 0), .int (nI y1), .ref a]) (rest := []) ⟨hx, hb, hml, hown, hts⟩ (l_wouldBeHalf_0 l D cI cR cS cL H.size o x v (wV o cI cR V) B y1 a g (by first | assumption | omega) (by first | assumption | omega) (by first | assumption | omega)) (vx_cwSW 3 hts gL_law_L_wouldBeHalf rfl rfl rfl (by decide +kernel) ⟨Nat.le_of_ble_eq_true rfl, Nat.le_of_ble_eq_true rfl⟩) (o_pF (W := [ol cL a 1 g] ++ (wO o cI cR cS x v (wV o cI cR V))) hK (hG.kept hS) (o_PT (pre := (wM q cI mv)) (ws := [ol cL a 1 g] ++ (wO o cI cR cS x v (wV o cI cR V))) hP) (o_DT (pre := (wM q cI mv)) (ws := [ol cL a 1 g] ++ (wO o cI cR cS x v (wV o cI cR V))) hD) (va_free hD hS hA _ (o_getT (wM q cI mv) ([ol cL a 1 g] ++ (wO o cI cR cS x v (wV o cI cR V)))))) rfl rfl hl.1 rfl (lv_room (Nat.le_of_ble_eq_true rfl)) dL_law_1194 ⟨show cells + 0 ≤ 601024 by omega, show slots + 0 ≤ 7293034 by omega⟩) hP hD hS hA (fun _ => rfl) (fun r1 u H locs e1 hP8 hD8 hS => ?_)
    obtain ⟨er1, hu⟩ := e1
    have er1 : r1 = nI 0 := er1
    subst er1
    have hu : u 0 = (nI (c_half v y1)).toInt64 := hu
    have hP := hP8
    have hD := hD8
    have hP : va_P D vwCl (z_W q o cI cR cS cL a u (va_up x 2 (c_wtf v y1 (x 2))) v mv V) H := hP
    have hD : va_D (z_A s) (z_W q o cI cR cS cL a u (va_up x 2 (c_wtf v y1 (x 2))) v mv V) := hD
    refine lv_istore (lv' := [(5, .int (nI 0)), (4, .int (nI i)), (0, .ref sb), (1, .ref (o 0)), (2, .ref (q 0)), (3, .ref a)]) hx hb dL_law_1197 hl (by decide) rfl (fun ls hl => ?_)
    refine lv_aload_n hx hb dL_law_1199 rfl (lv_at hl 4 rfl) ?_
    refine lv_aload_n hx hb dL_law_1200 rfl (lv_at hl 2 rfl) ?_
    refine lv_iload hx hb dL_law_1201 (lv_at hl 1 rfl) ?_
    refine o_const (k := 1) hx hb dL_law_1203 (by decide) ?_
    refine o_iadd (k := i + 1) hx hb dL_law_1204 rfl ?_
    refine z_ld (y := y1) hx hb hX hS (show i + 1 < L by omega) ey1 dL_law_1205 ?_
    refine o_wi (va_runV (As := [.int (nI y1)]) (rest := []) ⟨hx, hb, hml, hown, hts⟩ (k_X5_wouldBeHalf l D cI cR cS cL H.size q mv B y1 (by first | assumption | omega) (by first | assumption | omega) (by first | assumption | omega)) (cwV 1 hts gL_law_X5_wouldBeHalf rfl rfl rfl (by decide +kernel) ⟨Nat.le_of_ble_eq_true rfl, Nat.le_of_ble_eq_true rfl⟩) (o_v (o_pB hK hN (hP.sub (ws' := (wM q cI mv)) [0, 1, 2, 3, 4] rfl) (hD.sub (ws' := (wM q cI mv)) [0, 1, 2, 3, 4] (by decide +kernel) rfl)) (va_recv hK hP (ci := 5) (q0 := 0) rfl rfl)) rfl rfl hl.1 rfl (lv_room (Nat.le_of_ble_eq_true rfl)) dL_law_1206 ⟨show cells + 0 + 0 ≤ 601024 by omega, show slots + 0 + 0 ≤ 7293034 by omega⟩) hP hD hS hA [0, 1, 2, 3, 4] (by decide +kernel) rfl (fun _ => rfl) (fun r2 _ H locs e2 hP hD hS => ?_)
    have hP : va_P D vwCl (z_W q o cI cR cS cL a u (va_up x 2 (c_wtf v y1 (x 2))) v (va_up mv 0 (va_up (mv 0) 2 (if y1 < 4 then 0 else 1))) V) H := hP
    have hD : va_D (z_A s) (z_W q o cI cR cS cL a u (va_up x 2 (c_wtf v y1 (x 2))) v (va_up mv 0 (va_up (mv 0) 2 (if y1 < 4 then 0 else 1))) V) := hD
    rw [ec] at hP hD
    have e2 : r2 = nI (if y1 < 4 then m_half (mv 1) y1 else 0) := e2
    have er : (if y1 < 4 then m_half (mv 1) y1 else 0) = (c_half v y1) := by rw [if_pos hc1]; exact (p_half hR hI hB28 hc1).symm
    rw [er] at e2
    subst e2
    refine lv_istore (lv' := [(6, .int (nI (c_half v y1))), (5, .int (nI 0)), (4, .int (nI i)), (0, .ref sb), (1, .ref (o 0)), (2, .ref (q 0)), (3, .ref a)]) hx hb dL_law_1209 hl (by decide) rfl (fun ls hl => ?_)
    refine lv_aload_n hx hb dL_law_1211 rfl (lv_at hl 5 rfl) ?_
    refine o_ri (va_runV (As := []) (rest := []) ⟨hx, hb, hml, hown, hts⟩ (k_X5_thrown l D cI cR cS cL q (va_up mv 0 (va_up (mv 0) 2 0))) (cwV 0 hts gL_law_X5_thrown rfl rfl rfl (by decide +kernel) ⟨Nat.le_of_ble_eq_true rfl, Nat.le_of_ble_eq_true rfl⟩) (o_v (o_pR hK hN (hP.sub (ws' := (wM q cI (va_up mv 0 (va_up (mv 0) 2 0)))) [0, 1, 2, 3, 4] rfl)) (va_recv hK hP (ci := 5) (q0 := 0) rfl rfl)) rfl rfl hl.1 rfl (lv_room (Nat.le_of_ble_eq_true rfl)) dL_law_1212 ⟨show cells + 0 + 0 ≤ 601024 by omega, show slots + 0 + 0 ≤ 7293034 by omega⟩) (fun r3 e3 => ?_)
    have e3 : r3 = nI 0 := e3.trans (congrArg nI (rfl : _ = 0))
    subst e3
    refine lv_iload hx hb dL_law_1215 (lv_at hl 1 rfl) ?_
    refine o_icmp_eq (tgt := 1222) hx hb dL_law_1217 (by decide) (Nat.le_of_ble_eq_true rfl) (Nat.le_of_ble_eq_true rfl) (fun _ => ?_) (fun z => absurd rfl z)
    refine lv_iload hx hb dL_law_1222 (lv_at hl 1 rfl) ?_
    refine o_if_ne (a := 0) (tgt := 1239) hx hb dL_law_1224 (by decide) (Nat.le_of_ble_eq_true rfl) (fun z => absurd rfl z) (fun _ => ?_)
    refine lv_aload_n hx hb dL_law_1227 rfl (lv_at hl 6 rfl) ?_
    refine o_const (k := 0) hx hb dL_law_1228 (by decide) ?_
    refine va_lald hx hb hK hP 5 3 rfl rfl (vp_in_nI (by decide) (by decide)) dL_law_1229 ?_
    refine o_tl (congrArg u (nI_clamp (show 0 < 2 ^ 31 by decide))) ?_
    refine lv_iload hx hb dL_law_1230 (lv_at hl 0 rfl) ?_
    refine lv_i2l (v := (nI (c_half v y1)).toInt64) hx hb dL_law_1232 rfl ?_
    refine W.lcmp hx hb dL_law_1233 ?_
    refine o_ti (z_cmp hu) ?_
    refine o_if_eq (a := 0) (tgt := 1239) hx hb dL_law_1234 (by decide) (Nat.le_of_ble_eq_true rfl) (fun _ => ?_) (fun z => absurd rfl z)
    refine lv_goto (tgt := 1310) hx hb dL_law_1239 (by decide) ?_
    refine W.widen (k := cells + 1) (n := slots + 6) (by omega) (by omega) ?_
    exact K _ _ _ _ _ _ _ _ ⟨hP, hD, hS, g_thr2 G (by omega) 0 _⟩ (z_drop hl)
  · skip
    have ec : (if y1 < 4 then 0 else 1 : Nat) = 1 := by rw [if_neg hc1]
    refine lv_aload_n hx hb dL_law_1186 rfl (lv_at hl 2 rfl) ?_
    refine lv_aload_n hx hb dL_law_1187 rfl (lv_at hl 1 rfl) ?_
    refine lv_iload hx hb dL_law_1188 (lv_at hl 0 rfl) ?_
    refine o_const (k := 1) hx hb dL_law_1190 (by decide) ?_
    refine o_iadd (k := i + 1) hx hb dL_law_1191 rfl ?_
    refine z_ld (y := y1) hx hb hX hS (show i + 1 < L by omega) ey1 dL_law_1192 ?_
    refine lv_aload_n hx hb dL_law_1193 rfl (lv_at hl 4 rfl) ?_
    refine o_xiT (wM q cI mv) (vx_runSX (As := [.ref (o 0), .int (nI y1), .ref a]) (rest := []) ⟨hx, hb, hml, hown, hts⟩ (l_wouldBeHalf_1 l D cI cR cS cL hfl H.size o x v (wV o cI cR V) B y1 a g (by first | assumption | omega) (by first | assumption | omega)) (vx_cwSW 3 hts gL_law_L_wouldBeHalf rfl rfl rfl (by decide +kernel) ⟨Nat.le_of_ble_eq_true rfl, Nat.le_of_ble_eq_true rfl⟩) (o_pF (W := [ol cL a 1 g] ++ (wO o cI cR cS x v (wV o cI cR V))) hK (hG.kept hS) (o_PT (pre := (wM q cI mv)) (ws := [ol cL a 1 g] ++ (wO o cI cR cS x v (wV o cI cR V))) hP) (o_DT (pre := (wM q cI mv)) (ws := [ol cL a 1 g] ++ (wO o cI cR cS x v (wV o cI cR V))) hD) (va_free hD hS hA _ (o_getT (wM q cI mv) ([ol cL a 1 g] ++ (wO o cI cR cS x v (wV o cI cR V)))))) rfl rfl hl.1 rfl (lv_room (Nat.le_of_ble_eq_true rfl)) dL_law_1194 ⟨show cells + 1 ≤ 601024 by omega, show slots + 6 ≤ 7293034 by omega⟩) hP hD hS hA (fun _ => rfl) (fun r1 u H locs e1 hP8 hD8 hS => ?_)
    obtain ⟨er1, hu⟩ := e1
    have er1 : r1 = nI 1 := er1
    subst er1
    subst hu
    have hP := hP8
    have hD := hD8
    have hP : va_P D vwCl (z_W q o cI cR cS cL a u x v mv V) H := hP
    have hD : va_D (z_A s) (z_W q o cI cR cS cL a u x v mv V) := hD
    refine lv_istore (lv' := [(5, .int (nI 1)), (4, .int (nI i)), (0, .ref sb), (1, .ref (o 0)), (2, .ref (q 0)), (3, .ref a)]) hx hb dL_law_1197 hl (by decide) rfl (fun ls hl => ?_)
    refine lv_aload_n hx hb dL_law_1199 rfl (lv_at hl 4 rfl) ?_
    refine lv_aload_n hx hb dL_law_1200 rfl (lv_at hl 2 rfl) ?_
    refine lv_iload hx hb dL_law_1201 (lv_at hl 1 rfl) ?_
    refine o_const (k := 1) hx hb dL_law_1203 (by decide) ?_
    refine o_iadd (k := i + 1) hx hb dL_law_1204 rfl ?_
    refine z_ld (y := y1) hx hb hX hS (show i + 1 < L by omega) ey1 dL_law_1205 ?_
    refine o_wi (va_runV (As := [.int (nI y1)]) (rest := []) ⟨hx, hb, hml, hown, hts⟩ (k_X5_wouldBeHalf l D cI cR cS cL H.size q mv B y1 (by first | assumption | omega) (by first | assumption | omega) (by first | assumption | omega)) (cwV 1 hts gL_law_X5_wouldBeHalf rfl rfl rfl (by decide +kernel) ⟨Nat.le_of_ble_eq_true rfl, Nat.le_of_ble_eq_true rfl⟩) (o_v (o_pB hK hN (hP.sub (ws' := (wM q cI mv)) [0, 1, 2, 3, 4] rfl) (hD.sub (ws' := (wM q cI mv)) [0, 1, 2, 3, 4] (by decide +kernel) rfl)) (va_recv hK hP (ci := 5) (q0 := 0) rfl rfl)) rfl rfl hl.1 rfl (lv_room (Nat.le_of_ble_eq_true rfl)) dL_law_1206 ⟨show cells + 1 + 0 ≤ 601024 by omega, show slots + 6 + 0 ≤ 7293034 by omega⟩) hP hD hS hA [0, 1, 2, 3, 4] (by decide +kernel) rfl (fun _ => rfl) (fun r2 _ H locs e2 hP hD hS => ?_)
    have hP : va_P D vwCl (z_W q o cI cR cS cL a u x v (va_up mv 0 (va_up (mv 0) 2 (if y1 < 4 then 0 else 1))) V) H := hP
    have hD : va_D (z_A s) (z_W q o cI cR cS cL a u x v (va_up mv 0 (va_up (mv 0) 2 (if y1 < 4 then 0 else 1))) V) := hD
    rw [ec] at hP hD
    refine lv_istore (lv' := [(6, .int r2), (5, .int (nI 1)), (4, .int (nI i)), (0, .ref sb), (1, .ref (o 0)), (2, .ref (q 0)), (3, .ref a)]) hx hb dL_law_1209 hl (by decide) rfl (fun ls hl => ?_)
    refine lv_aload_n hx hb dL_law_1211 rfl (lv_at hl 5 rfl) ?_
    refine o_ri (va_runV (As := []) (rest := []) ⟨hx, hb, hml, hown, hts⟩ (k_X5_thrown l D cI cR cS cL q (va_up mv 0 (va_up (mv 0) 2 1))) (cwV 0 hts gL_law_X5_thrown rfl rfl rfl (by decide +kernel) ⟨Nat.le_of_ble_eq_true rfl, Nat.le_of_ble_eq_true rfl⟩) (o_v (o_pR hK hN (hP.sub (ws' := (wM q cI (va_up mv 0 (va_up (mv 0) 2 1)))) [0, 1, 2, 3, 4] rfl)) (va_recv hK hP (ci := 5) (q0 := 0) rfl rfl)) rfl rfl hl.1 rfl (lv_room (Nat.le_of_ble_eq_true rfl)) dL_law_1212 ⟨show cells + 1 + 0 ≤ 601024 by omega, show slots + 6 + 0 ≤ 7293034 by omega⟩) (fun r3 e3 => ?_)
    have e3 : r3 = nI 1 := e3.trans (congrArg nI (rfl : _ = 1))
    subst e3
    refine lv_iload hx hb dL_law_1215 (lv_at hl 1 rfl) ?_
    refine o_icmp_eq (tgt := 1222) hx hb dL_law_1217 (by decide) (Nat.le_of_ble_eq_true rfl) (Nat.le_of_ble_eq_true rfl) (fun _ => ?_) (fun z => absurd rfl z)
    refine lv_iload hx hb dL_law_1222 (lv_at hl 1 rfl) ?_
    refine o_if_ne (a := 1) (tgt := 1239) hx hb dL_law_1224 (by decide) (Nat.le_of_ble_eq_true rfl) (fun _ => ?_) (fun z => absurd z (by decide))
    refine lv_goto (tgt := 1310) hx hb dL_law_1239 (by decide) ?_
    refine W.widen (k := cells + 1) (n := slots + 6) (by omega) (by omega) ?_
    exact K _ _ _ _ _ _ _ _ ⟨hP, hD, hS, g_thr G (by omega) 1⟩ (z_drop hl)
